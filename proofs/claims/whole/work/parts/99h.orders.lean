/-! Orders. -/
def popN : Nat → Nat → Nat
  | 0, _ => 0
  | m + 1, s => s % 2 + popN m (s / 2)
def othM (e i : Int) : Int := and32 e (xor32 (shl32 1 i) (-1))
def chkB (s l : Nat) : Bool := if othM s l < s ∧ 0 ≤ othM s l then decide (popN 8 (othM s l).toNat + 1 ≤ popN 8 s) else true
theorem chk_all : (List.range 256).all (fun s => (List.range 8).all (fun l => chkB s l)) = true := by decide +kernel
theorem chk_at {s l : Nat} (a : s < 256) (b : l < 8) (c : othM s l < s) (c2 : 0 ≤ othM s l) : popN 8 (othM s l).toNat + 1 ≤ popN 8 s := by
  have z := List.all_eq_true.mp (List.all_eq_true.mp chk_all s (List.mem_range.mpr a)) l (List.mem_range.mpr b)
  unfold chkB at z
  rw [if_pos ⟨c, c2⟩] at z
  exact of_decide_eq_true z
theorem pop_top : ∀ s, s < 256 → popN 8 s ≤ 8 := by decide +kernel
def ahdM (Y : Int → Int) (ff tt all i : Int) : Int := if i = tt ∧ 0 ≤ ff then or32 (and32 (Y (28 + i)) all) (shl32 1 ff) else and32 (Y (28 + i)) all
def ordB (Y : Int → Int) (ff tt all e i : Int) : Bool := decide (othM e i < e ∧ 0 ≤ othM e i ∧ and32 (ahdM Y ff tt all i) (xor32 (othM e i) (-1)) = 0)
theorem ordB_y {Y : Int → Int} {ff tt all e i x : Int} (z : ahdM Y ff tt all i = x) (a : othM e i < e) (b : 0 ≤ othM e i) (c : and32 x (xor32 (othM e i) (-1)) = 0) : ordB Y ff tt all e i = true := decide_eq_true ⟨a, b, by rw [z]; exact c⟩
theorem ordB_n {Y : Int → Int} {ff tt all e i x : Int} (z : ahdM Y ff tt all i = x) (a : e ≤ othM e i ∨ othM e i < 0 ∨ and32 x (xor32 (othM e i) (-1)) ≠ 0) : ¬ ordB Y ff tt all e i = true := by
  intro q
  have q := of_decide_eq_true q
  rw [z] at q
  omega
theorem ordB_i {Y : Int → Int} {ff tt all e i : Int} (q : ordB Y ff tt all e i = true) : othM e i < e ∧ 0 ≤ othM e i := ⟨(of_decide_eq_true q).1, (of_decide_eq_true q).2.1⟩
def osuM (Y f : Int → Int) (ff tt all e : Int) : Nat → Int → Int → Int
  | 0, _, a => a
  | m + 1, i, a => osuM Y f ff tt all e m (i + 1) (if ordB Y ff tt all e i = true then a + f (othM e i) else a)
def orvM (Y : Int → Int) (ff tt all : Int) (nn : Nat) : Nat → Int → Int
  | 0 => fun _ => 0
  | m + 1 => fset (orvM Y ff tt all nn m) (m : Int) (osuM Y (orvM Y ff tt all nn m) ff tt all (m : Int) nn 0 (if m = 0 then 1 else 0))
def allM (x : Int) : Int := shl32 1 x - 1
theorem allM_bd : ∀ x : Nat, x ≤ 8 → 0 ≤ allM x ∧ allM x ≤ 255 := by decide +kernel
theorem allM_b {x : Int} (x0 : 0 ≤ x) (x1 : x ≤ 8) : 0 ≤ allM x ∧ allM x ≤ 255 := by have := allM_bd x.toNat (by omega); rw [show ((x.toNat : Nat) : Int) = x by omega] at this; exact this
def ordM (Y : Int → Int) (x ff tt : Int) : Int := orvM Y ff tt (allM x) x.toNat ((allM x).toNat + 1) (allM x)
def aOrders (W : Int → Int → Int) (x : Int) : Int := if 0 ≤ x ∧ x ≤ 8 then ordM (W 2) x (-1) (-1) else -1
def aSure (W : Int → Int → Int) (x a b : Int) : Int := if 0 ≤ x ∧ x ≤ 8 ∧ 0 ≤ a ∧ a < x ∧ 0 ≤ b ∧ b < x ∧ a ≠ b ∧ ordM (W 2) x (-1) (-1) ≠ 0 then (if ordM (W 2) x a b = ordM (W 2) x (-1) (-1) then 1 else if ordM (W 2) x a b = 0 then -1 else 0) else -2
theorem osuM_b {Y f : Int → Int} {ff tt all : Int} {e : Nat} (e8 : e < 256) (fb : ∀ j : Nat, j < e → 0 ≤ f j ∧ f j ≤ pw8 (popN 8 j)) : ∀ (m : Nat) (i : Nat) (a : Int), i + m ≤ 8 → 0 ≤ a → 0 ≤ osuM Y f ff tt all e m i a ∧ osuM Y f ff tt all e m i a ≤ a + m * pz8 (popN 8 e) := by
  intro m
  induction m with
  | zero => intro i a i0 a0; unfold osuM; omega
  | succ m ih =>
    intro i a i0 a0
    have p1 := pz8_0 (popN 8 e)
    unfold osuM
    have e1 : ((i + 1 : Nat) : Int) = (i : Int) + 1 := by omega
    split
    · rename_i q
      have q1 := ordB_i q
      have f1 := fb (othM e i).toNat (by omega)
      rw [show (((othM e i).toNat : Nat) : Int) = othM e i by omega] at f1
      have f2 : pw8 (popN 8 (othM e i).toNat) ≤ pz8 (popN 8 e) := by
        have c1 := chk_at e8 (show i < 8 by omega) q1.1 q1.2
        have c2 := pw8_mono (popN 8 e - 1 - popN 8 (othM e i).toNat) (popN 8 (othM e i).toNat)
        rw [show popN 8 (othM e i).toNat + (popN 8 e - 1 - popN 8 (othM e i).toNat) = popN 8 e - 1 by omega] at c2
        have c3 : pz8 (popN 8 e) = pw8 (popN 8 e - 1) := by
          cases z : popN 8 e with
          | zero => omega
          | succ y => rfl
        rw [c3]; exact c2
      have := ih (i + 1) (a + f (othM e i)) (by omega) (by omega)
      rw [e1] at this
      rw [show ((m + 1 : Nat) : Int) = (m : Int) + 1 by omega, Int.add_mul]
      omega
    · have := ih (i + 1) a (by omega) a0
      rw [e1] at this
      rw [show ((m + 1 : Nat) : Int) = (m : Int) + 1 by omega, Int.add_mul]
      omega
theorem orvM_b {Y : Int → Int} {ff tt all : Int} {nn : Nat} (c8 : nn ≤ 8) : ∀ (m : Nat) (j : Nat), m ≤ 256 → j < m → 0 ≤ orvM Y ff tt all nn m j ∧ orvM Y ff tt all nn m j ≤ pw8 (popN 8 j) := by
  intro m
  induction m with
  | zero => intro j m0 j0; omega
  | succ m ih =>
    intro j m0 j0
    unfold orvM
    by_cases q : j = m
    · subst q
      rw [fset_at]
      have r1 := osuM_b (Y := Y) (ff := ff) (tt := tt) (all := all) (show j < 256 by omega) (fun i i0 => ih i (by omega) i0) nn 0 (if j = 0 then 1 else 0) (by omega) (by split <;> decide)
      refine ⟨r1.1, Int.le_trans r1.2 ?_⟩
      by_cases q0 : j = 0
      · subst q0; show (1 : Int) + (nn : Int) * 0 ≤ 1; omega
      · rw [if_neg q0]
        have z0 := Int.mul_le_mul_of_nonneg_right (show (nn : Int) ≤ 8 by omega) (pz8_0 (popN 8 j))
        have z1 : 8 * pz8 (popN 8 j) ≤ pw8 (popN 8 j) := by
          cases z : popN 8 j with
          | zero => decide
          | succ y => exact Int.le_refl _
        omega
    · rw [fset_ne (by omega)]
      exact ih j (by omega) (by omega)
theorem orvM_t {Y : Int → Int} {ff tt all : Int} {nn : Nat} (c8 : nn ≤ 8) (m j : Nat) (m0 : m ≤ 256) (j0 : j < m) : 0 ≤ orvM Y ff tt all nn m j ∧ orvM Y ff tt all nn m j ≤ 1073741824 := by
  have := orvM_b (Y := Y) (ff := ff) (tt := tt) (all := all) c8 m j m0 j0
  have := pop_top j (by omega)
  have := pw8_top (popN 8 j) (by omega)
  omega
section ORD
variable {d bc bs n : Nat} {h : aH} {Q : aQ} {Y f2 : Int → Int} {n1 n2 : Int}
theorem R_X3_countOrders {x ff tt : Int} (i1 : h 292 = cO 3 [vR (some 293), vR (some 294), vR (some 295), vR (some 296), vI n1, vI n2]) (i2 : h 296 = cJ (Ls 256 f2)) (s : IsSa h 133 Y) (x0 : 0 ≤ x) (x1 : x ≤ 8) (k : ∀ h1 f3, Fr h h1 296 1 → h1 296 = cJ (Ls 256 f3) → Q (some (vL (ordM Y x ff tt))) h1 n) : Rn (d + 2) bc bs mX3_countOrders 0 [some (vR (some 292)), some (vR (some 133)), some (vI x), some (vI ff), some (vI tt), none, none, none, none, none] [] h n Q := by
  have ax := allM_b x0 x1
  have in47 : ∀ (e : Nat) (m : Nat) (i a : Int) (l8 l9 : Option aV) (R : Int → Int) (h1 : aH), (e : Int) ≤ allM x → 0 ≤ i → i + m = x → 0 ≤ a → a + m * 1073741824 ≤ 100000000000 → (∀ j : Nat, j < e → R j = orvM Y ff tt (allM x) x.toNat e j) → R e = a → h1 292 = cO 3 [vR (some 293), vR (some 294), vR (some 295), vR (some 296), vI n1, vI n2] → h1 296 = cJ (Ls 256 R) → IsSa h1 133 Y → (∀ h2 R2 l7 l8 l9, Fr h1 h2 296 1 → (∀ j : Nat, j < e → R2 j = R j) → R2 e = osuM Y (orvM Y ff tt (allM x) x.toNat e) ff tt (allM x) e m i a → h2 296 = cJ (Ls 256 R2) → Rn (d + 2) bc bs mX3_countOrders 10 [some (vR (some 292)), some (vR (some 133)), some (vI x), some (vI ff), some (vI tt), some (vI (allM x)), some (vI ((e : Int) + 1)), l7, l8, l9] [] h2 n Q) → Rn (d + 2) bc bs mX3_countOrders 47 [some (vR (some 292)), some (vR (some 133)), some (vI x), some (vI ff), some (vI tt), some (vI (allM x)), some (vI (e : Int)), some (vI i), l8, l9] [] h1 n Q := by
    intro e m
    induction m with
    | zero =>
      intro i a l8 l9 R h1 e0 i0 im a0 a1 rj re i1 i2 s k
      refine BX3_countOrders_47  ?_ ?_
      · intro hc1
        first
        | (exfalso; omega)
        | (
            refine BX3_countOrders_139 (by first | omega | (simp only [Ls_len]; omega) | assumption | exact Ls_get (by omega) (by omega) | rfl | decide) ?_
            exact k _ R _ _ _ (Fr.rf h1 296 1) (fun j j0 => rfl) re i2
          )
      · intro hc2
        first
        | (exfalso; omega)
        | (
            (exfalso; omega)
          )
    | succ m ih =>
      intro i a l8 l9 R h1 e0 i0 im a0 a1 rj re i1 i2 s k
      have s9 := s
      obtain ⟨s1, s2, s3, s4, s5, s6, s7, s8⟩ := s
      unfold osuM at k
      have rb : (e : Int) ≤ othM e i ∨ othM e i < 0 ∨ (0 ≤ R (othM e i) ∧ R (othM e i) ≤ 1073741824 ∧ R (othM e i) = orvM Y ff tt (allM x) x.toNat e (othM e i)) := by
        by_cases z1 : (e : Int) ≤ othM e i
        · exact .inl z1
        · by_cases z2 : othM e i < 0
          · exact .inr (.inl z2)
          · have z3 := rj (othM e i).toNat (by omega)
            have z4 := orvM_t (Y := Y) (ff := ff) (tt := tt) (all := allM x) (nn := x.toNat) (by omega) e (othM e i).toNat (by omega) (by omega)
            rw [show (((othM e i).toNat : Nat) : Int) = othM e i by omega] at z3 z4
            exact .inr (.inr ⟨by omega, by omega, z3⟩)
      have eo : othM e i = and32 (e : Int) (xor32 (shl32 1 i) (-1)) := rfl
      refine BX3_countOrders_47  ?_ ?_
      · intro hc1
        refine BX3_countOrders_139 (by first | omega | (simp only [Ls_len]; omega) | assumption | exact Ls_get (by omega) (by omega) | rfl | decide) ?_
        (exfalso; omega)
      · intro hc2
        refine BX3_countOrders_53 (by first | assumption | exact up_at _ _ _ | (rw [up_ne (by omega)]; first | assumption | exact up_at _ _ _ | (rw [up_ne (by omega)]; assumption))) ?_
        refine R_X5_earlierThan (by first | omega | (simp only [Ls_len]; omega) | assumption | exact Ls_get (by omega) (by omega) | rfl | decide) (by first | omega | (simp only [Ls_len]; omega) | assumption | exact Ls_get (by omega) (by omega) | rfl | decide) (by first | omega | (simp only [Ls_len]; omega) | assumption | exact Ls_get (by omega) (by omega) | rfl | decide) (by first | omega | (simp only [Ls_len]; omega) | assumption | exact Ls_get (by omega) (by omega) | rfl | decide) ?_
        rw [← eo]
        refine BX3_countOrders_70  ?_ ?_
        · intro hc3
          refine BX3_countOrders_94  ?_ ?_
          · intro hc4
            refine BX3_countOrders_133 (by first | omega | (simp only [Ls_len]; omega) | assumption | exact Ls_get (by omega) (by omega) | rfl | decide) ?_
            first
            | (rw [if_neg (ordB_n (if_neg (by omega)) (by omega))] at k; exact ih _ _ _ _ R h1 e0 (by omega) (by omega) a0 (by omega) rj re i1 i2 s9 k)
            | (rw [if_neg (ordB_n (if_pos (by omega)) (by omega))] at k; exact ih _ _ _ _ R h1 e0 (by omega) (by omega) a0 (by omega) rj re i1 i2 s9 k)
            | (have rb2 : 0 ≤ R (othM e i) ∧ R (othM e i) ≤ 1073741824 ∧ R (othM e i) = orvM Y ff tt (allM x) x.toNat e (othM e i) := by omega
               first
               | rw [if_pos (ordB_y (if_neg (by omega)) (by omega) (by omega) (by omega))] at k
               | rw [if_pos (ordB_y (if_pos (by omega)) (by omega) (by omega) (by omega))] at k
               refine ih _ (a + orvM Y ff tt (allM x) x.toNat e (othM e i)) _ _ (fset R (e : Int) (R e + R (othM e i))) _ e0 (by omega) (by omega) (by omega) (by omega) (fun j j0 => (fset_ne (by omega)).trans (rj j j0)) (by rw [fset_at, re, rb2.2.2]) ((up_ne (by decide)).trans i1) (up_at _ _ _) (s9.fr (Fr.one _ _ _) (by decide)) (fun h2 R2 l7 l8 l9 q1 q2 q3 q4 => ?_)
               exact k h2 R2 l7 l8 l9 (Fr.tr (Fr.one _ _ _) q1) (fun j j0 => (q2 j j0).trans (fset_ne (by omega))) q3 q4)
          · intro hc5
            refine BX3_countOrders_101  ?_ ?_
            · intro hc6
              refine BX3_countOrders_133 (by first | omega | (simp only [Ls_len]; omega) | assumption | exact Ls_get (by omega) (by omega) | rfl | decide) ?_
              first
              | (rw [if_neg (ordB_n (if_neg (by omega)) (by omega))] at k; exact ih _ _ _ _ R h1 e0 (by omega) (by omega) a0 (by omega) rj re i1 i2 s9 k)
              | (rw [if_neg (ordB_n (if_pos (by omega)) (by omega))] at k; exact ih _ _ _ _ R h1 e0 (by omega) (by omega) a0 (by omega) rj re i1 i2 s9 k)
              | (have rb2 : 0 ≤ R (othM e i) ∧ R (othM e i) ≤ 1073741824 ∧ R (othM e i) = orvM Y ff tt (allM x) x.toNat e (othM e i) := by omega
                 first
                 | rw [if_pos (ordB_y (if_neg (by omega)) (by omega) (by omega) (by omega))] at k
                 | rw [if_pos (ordB_y (if_pos (by omega)) (by omega) (by omega) (by omega))] at k
                 refine ih _ (a + orvM Y ff tt (allM x) x.toNat e (othM e i)) _ _ (fset R (e : Int) (R e + R (othM e i))) _ e0 (by omega) (by omega) (by omega) (by omega) (fun j j0 => (fset_ne (by omega)).trans (rj j j0)) (by rw [fset_at, re, rb2.2.2]) ((up_ne (by decide)).trans i1) (up_at _ _ _) (s9.fr (Fr.one _ _ _) (by decide)) (fun h2 R2 l7 l8 l9 q1 q2 q3 q4 => ?_)
                 exact k h2 R2 l7 l8 l9 (Fr.tr (Fr.one _ _ _) q1) (fun j j0 => (q2 j j0).trans (fset_ne (by omega))) q3 q4)
            · intro hc7
              refine BX3_countOrders_106  ?_ ?_
              · intro hc8
                refine BX3_countOrders_133 (by first | omega | (simp only [Ls_len]; omega) | assumption | exact Ls_get (by omega) (by omega) | rfl | decide) ?_
                first
                | (rw [if_neg (ordB_n (if_neg (by omega)) (by omega))] at k; exact ih _ _ _ _ R h1 e0 (by omega) (by omega) a0 (by omega) rj re i1 i2 s9 k)
                | (rw [if_neg (ordB_n (if_pos (by omega)) (by omega))] at k; exact ih _ _ _ _ R h1 e0 (by omega) (by omega) a0 (by omega) rj re i1 i2 s9 k)
                | (have rb2 : 0 ≤ R (othM e i) ∧ R (othM e i) ≤ 1073741824 ∧ R (othM e i) = orvM Y ff tt (allM x) x.toNat e (othM e i) := by omega
                   first
                   | rw [if_pos (ordB_y (if_neg (by omega)) (by omega) (by omega) (by omega))] at k
                   | rw [if_pos (ordB_y (if_pos (by omega)) (by omega) (by omega) (by omega))] at k
                   refine ih _ (a + orvM Y ff tt (allM x) x.toNat e (othM e i)) _ _ (fset R (e : Int) (R e + R (othM e i))) _ e0 (by omega) (by omega) (by omega) (by omega) (fun j j0 => (fset_ne (by omega)).trans (rj j j0)) (by rw [fset_at, re, rb2.2.2]) ((up_ne (by decide)).trans i1) (up_at _ _ _) (s9.fr (Fr.one _ _ _) (by decide)) (fun h2 R2 l7 l8 l9 q1 q2 q3 q4 => ?_)
                   exact k h2 R2 l7 l8 l9 (Fr.tr (Fr.one _ _ _) q1) (fun j j0 => (q2 j j0).trans (fset_ne (by omega))) q3 q4)
              · intro hc9
                refine BX3_countOrders_116 (by first | assumption | exact up_at _ _ _ | (rw [up_ne (by omega)]; first | assumption | exact up_at _ _ _ | (rw [up_ne (by omega)]; assumption))) (by rfl) (by first | assumption | exact up_at _ _ _ | (rw [up_ne (by omega)]; first | assumption | exact up_at _ _ _ | (rw [up_ne (by omega)]; assumption))) (by first | omega | (simp only [Ls_len]; omega) | assumption | exact Ls_get (by omega) (by omega) | rfl | decide) (by first | exact Ls_get (by omega) (by omega) | assumption) (by first | omega | (simp only [Ls_len]; omega) | assumption | exact Ls_get (by omega) (by omega) | rfl | decide) (by first | omega | (simp only [Ls_len]; omega) | assumption | exact Ls_get (by omega) (by omega) | rfl | decide) (by first | exact Ls_get (by omega) (by omega) | assumption) (by first | omega | (simp only [Ls_len]; omega) | assumption | exact Ls_get (by omega) (by omega) | rfl | decide) (by first | omega | (simp only [Ls_len]; omega) | assumption | exact Ls_get (by omega) (by omega) | rfl | decide) ?_
                try rw [Ls_set (by omega)]
                refine BX3_countOrders_133 (by first | omega | (simp only [Ls_len]; omega) | assumption | exact Ls_get (by omega) (by omega) | rfl | decide) ?_
                first
                | (rw [if_neg (ordB_n (if_neg (by omega)) (by omega))] at k; exact ih _ _ _ _ R h1 e0 (by omega) (by omega) a0 (by omega) rj re i1 i2 s9 k)
                | (rw [if_neg (ordB_n (if_pos (by omega)) (by omega))] at k; exact ih _ _ _ _ R h1 e0 (by omega) (by omega) a0 (by omega) rj re i1 i2 s9 k)
                | (have rb2 : 0 ≤ R (othM e i) ∧ R (othM e i) ≤ 1073741824 ∧ R (othM e i) = orvM Y ff tt (allM x) x.toNat e (othM e i) := by omega
                   first
                   | rw [if_pos (ordB_y (if_neg (by omega)) (by omega) (by omega) (by omega))] at k
                   | rw [if_pos (ordB_y (if_pos (by omega)) (by omega) (by omega) (by omega))] at k
                   refine ih _ (a + orvM Y ff tt (allM x) x.toNat e (othM e i)) _ _ (fset R (e : Int) (R e + R (othM e i))) _ e0 (by omega) (by omega) (by omega) (by omega) (fun j j0 => (fset_ne (by omega)).trans (rj j j0)) (by rw [fset_at, re, rb2.2.2]) ((up_ne (by decide)).trans i1) (up_at _ _ _) (s9.fr (Fr.one _ _ _) (by decide)) (fun h2 R2 l7 l8 l9 q1 q2 q3 q4 => ?_)
                   exact k h2 R2 l7 l8 l9 (Fr.tr (Fr.one _ _ _) q1) (fun j j0 => (q2 j j0).trans (fset_ne (by omega))) q3 q4)
        · intro hc10
          refine BX3_countOrders_82  ?_ ?_
          · intro hc11
            refine BX3_countOrders_94  ?_ ?_
            · intro hc12
              refine BX3_countOrders_133 (by first | omega | (simp only [Ls_len]; omega) | assumption | exact Ls_get (by omega) (by omega) | rfl | decide) ?_
              first
              | (rw [if_neg (ordB_n (if_neg (by omega)) (by omega))] at k; exact ih _ _ _ _ R h1 e0 (by omega) (by omega) a0 (by omega) rj re i1 i2 s9 k)
              | (rw [if_neg (ordB_n (if_pos (by omega)) (by omega))] at k; exact ih _ _ _ _ R h1 e0 (by omega) (by omega) a0 (by omega) rj re i1 i2 s9 k)
              | (have rb2 : 0 ≤ R (othM e i) ∧ R (othM e i) ≤ 1073741824 ∧ R (othM e i) = orvM Y ff tt (allM x) x.toNat e (othM e i) := by omega
                 first
                 | rw [if_pos (ordB_y (if_neg (by omega)) (by omega) (by omega) (by omega))] at k
                 | rw [if_pos (ordB_y (if_pos (by omega)) (by omega) (by omega) (by omega))] at k
                 refine ih _ (a + orvM Y ff tt (allM x) x.toNat e (othM e i)) _ _ (fset R (e : Int) (R e + R (othM e i))) _ e0 (by omega) (by omega) (by omega) (by omega) (fun j j0 => (fset_ne (by omega)).trans (rj j j0)) (by rw [fset_at, re, rb2.2.2]) ((up_ne (by decide)).trans i1) (up_at _ _ _) (s9.fr (Fr.one _ _ _) (by decide)) (fun h2 R2 l7 l8 l9 q1 q2 q3 q4 => ?_)
                 exact k h2 R2 l7 l8 l9 (Fr.tr (Fr.one _ _ _) q1) (fun j j0 => (q2 j j0).trans (fset_ne (by omega))) q3 q4)
            · intro hc13
              refine BX3_countOrders_101  ?_ ?_
              · intro hc14
                refine BX3_countOrders_133 (by first | omega | (simp only [Ls_len]; omega) | assumption | exact Ls_get (by omega) (by omega) | rfl | decide) ?_
                first
                | (rw [if_neg (ordB_n (if_neg (by omega)) (by omega))] at k; exact ih _ _ _ _ R h1 e0 (by omega) (by omega) a0 (by omega) rj re i1 i2 s9 k)
                | (rw [if_neg (ordB_n (if_pos (by omega)) (by omega))] at k; exact ih _ _ _ _ R h1 e0 (by omega) (by omega) a0 (by omega) rj re i1 i2 s9 k)
                | (have rb2 : 0 ≤ R (othM e i) ∧ R (othM e i) ≤ 1073741824 ∧ R (othM e i) = orvM Y ff tt (allM x) x.toNat e (othM e i) := by omega
                   first
                   | rw [if_pos (ordB_y (if_neg (by omega)) (by omega) (by omega) (by omega))] at k
                   | rw [if_pos (ordB_y (if_pos (by omega)) (by omega) (by omega) (by omega))] at k
                   refine ih _ (a + orvM Y ff tt (allM x) x.toNat e (othM e i)) _ _ (fset R (e : Int) (R e + R (othM e i))) _ e0 (by omega) (by omega) (by omega) (by omega) (fun j j0 => (fset_ne (by omega)).trans (rj j j0)) (by rw [fset_at, re, rb2.2.2]) ((up_ne (by decide)).trans i1) (up_at _ _ _) (s9.fr (Fr.one _ _ _) (by decide)) (fun h2 R2 l7 l8 l9 q1 q2 q3 q4 => ?_)
                   exact k h2 R2 l7 l8 l9 (Fr.tr (Fr.one _ _ _) q1) (fun j j0 => (q2 j j0).trans (fset_ne (by omega))) q3 q4)
              · intro hc15
                refine BX3_countOrders_106  ?_ ?_
                · intro hc16
                  refine BX3_countOrders_133 (by first | omega | (simp only [Ls_len]; omega) | assumption | exact Ls_get (by omega) (by omega) | rfl | decide) ?_
                  first
                  | (rw [if_neg (ordB_n (if_neg (by omega)) (by omega))] at k; exact ih _ _ _ _ R h1 e0 (by omega) (by omega) a0 (by omega) rj re i1 i2 s9 k)
                  | (rw [if_neg (ordB_n (if_pos (by omega)) (by omega))] at k; exact ih _ _ _ _ R h1 e0 (by omega) (by omega) a0 (by omega) rj re i1 i2 s9 k)
                  | (have rb2 : 0 ≤ R (othM e i) ∧ R (othM e i) ≤ 1073741824 ∧ R (othM e i) = orvM Y ff tt (allM x) x.toNat e (othM e i) := by omega
                     first
                     | rw [if_pos (ordB_y (if_neg (by omega)) (by omega) (by omega) (by omega))] at k
                     | rw [if_pos (ordB_y (if_pos (by omega)) (by omega) (by omega) (by omega))] at k
                     refine ih _ (a + orvM Y ff tt (allM x) x.toNat e (othM e i)) _ _ (fset R (e : Int) (R e + R (othM e i))) _ e0 (by omega) (by omega) (by omega) (by omega) (fun j j0 => (fset_ne (by omega)).trans (rj j j0)) (by rw [fset_at, re, rb2.2.2]) ((up_ne (by decide)).trans i1) (up_at _ _ _) (s9.fr (Fr.one _ _ _) (by decide)) (fun h2 R2 l7 l8 l9 q1 q2 q3 q4 => ?_)
                     exact k h2 R2 l7 l8 l9 (Fr.tr (Fr.one _ _ _) q1) (fun j j0 => (q2 j j0).trans (fset_ne (by omega))) q3 q4)
                · intro hc17
                  refine BX3_countOrders_116 (by first | assumption | exact up_at _ _ _ | (rw [up_ne (by omega)]; first | assumption | exact up_at _ _ _ | (rw [up_ne (by omega)]; assumption))) (by rfl) (by first | assumption | exact up_at _ _ _ | (rw [up_ne (by omega)]; first | assumption | exact up_at _ _ _ | (rw [up_ne (by omega)]; assumption))) (by first | omega | (simp only [Ls_len]; omega) | assumption | exact Ls_get (by omega) (by omega) | rfl | decide) (by first | exact Ls_get (by omega) (by omega) | assumption) (by first | omega | (simp only [Ls_len]; omega) | assumption | exact Ls_get (by omega) (by omega) | rfl | decide) (by first | omega | (simp only [Ls_len]; omega) | assumption | exact Ls_get (by omega) (by omega) | rfl | decide) (by first | exact Ls_get (by omega) (by omega) | assumption) (by first | omega | (simp only [Ls_len]; omega) | assumption | exact Ls_get (by omega) (by omega) | rfl | decide) (by first | omega | (simp only [Ls_len]; omega) | assumption | exact Ls_get (by omega) (by omega) | rfl | decide) ?_
                  try rw [Ls_set (by omega)]
                  refine BX3_countOrders_133 (by first | omega | (simp only [Ls_len]; omega) | assumption | exact Ls_get (by omega) (by omega) | rfl | decide) ?_
                  first
                  | (rw [if_neg (ordB_n (if_neg (by omega)) (by omega))] at k; exact ih _ _ _ _ R h1 e0 (by omega) (by omega) a0 (by omega) rj re i1 i2 s9 k)
                  | (rw [if_neg (ordB_n (if_pos (by omega)) (by omega))] at k; exact ih _ _ _ _ R h1 e0 (by omega) (by omega) a0 (by omega) rj re i1 i2 s9 k)
                  | (have rb2 : 0 ≤ R (othM e i) ∧ R (othM e i) ≤ 1073741824 ∧ R (othM e i) = orvM Y ff tt (allM x) x.toNat e (othM e i) := by omega
                     first
                     | rw [if_pos (ordB_y (if_neg (by omega)) (by omega) (by omega) (by omega))] at k
                     | rw [if_pos (ordB_y (if_pos (by omega)) (by omega) (by omega) (by omega))] at k
                     refine ih _ (a + orvM Y ff tt (allM x) x.toNat e (othM e i)) _ _ (fset R (e : Int) (R e + R (othM e i))) _ e0 (by omega) (by omega) (by omega) (by omega) (fun j j0 => (fset_ne (by omega)).trans (rj j j0)) (by rw [fset_at, re, rb2.2.2]) ((up_ne (by decide)).trans i1) (up_at _ _ _) (s9.fr (Fr.one _ _ _) (by decide)) (fun h2 R2 l7 l8 l9 q1 q2 q3 q4 => ?_)
                     exact k h2 R2 l7 l8 l9 (Fr.tr (Fr.one _ _ _) q1) (fun j j0 => (q2 j j0).trans (fset_ne (by omega))) q3 q4)
          · intro hc18
            refine BX3_countOrders_86  ?_ ?_
            · intro hc19
              refine BX3_countOrders_133 (by first | omega | (simp only [Ls_len]; omega) | assumption | exact Ls_get (by omega) (by omega) | rfl | decide) ?_
              first
              | (rw [if_neg (ordB_n (if_neg (by omega)) (by omega))] at k; exact ih _ _ _ _ R h1 e0 (by omega) (by omega) a0 (by omega) rj re i1 i2 s9 k)
              | (rw [if_neg (ordB_n (if_pos (by omega)) (by omega))] at k; exact ih _ _ _ _ R h1 e0 (by omega) (by omega) a0 (by omega) rj re i1 i2 s9 k)
              | (have rb2 : 0 ≤ R (othM e i) ∧ R (othM e i) ≤ 1073741824 ∧ R (othM e i) = orvM Y ff tt (allM x) x.toNat e (othM e i) := by omega
                 first
                 | rw [if_pos (ordB_y (if_neg (by omega)) (by omega) (by omega) (by omega))] at k
                 | rw [if_pos (ordB_y (if_pos (by omega)) (by omega) (by omega) (by omega))] at k
                 refine ih _ (a + orvM Y ff tt (allM x) x.toNat e (othM e i)) _ _ (fset R (e : Int) (R e + R (othM e i))) _ e0 (by omega) (by omega) (by omega) (by omega) (fun j j0 => (fset_ne (by omega)).trans (rj j j0)) (by rw [fset_at, re, rb2.2.2]) ((up_ne (by decide)).trans i1) (up_at _ _ _) (s9.fr (Fr.one _ _ _) (by decide)) (fun h2 R2 l7 l8 l9 q1 q2 q3 q4 => ?_)
                 exact k h2 R2 l7 l8 l9 (Fr.tr (Fr.one _ _ _) q1) (fun j j0 => (q2 j j0).trans (fset_ne (by omega))) q3 q4)
            · intro hc20
              refine BX3_countOrders_101  ?_ ?_
              · intro hc21
                refine BX3_countOrders_133 (by first | omega | (simp only [Ls_len]; omega) | assumption | exact Ls_get (by omega) (by omega) | rfl | decide) ?_
                first
                | (rw [if_neg (ordB_n (if_neg (by omega)) (by omega))] at k; exact ih _ _ _ _ R h1 e0 (by omega) (by omega) a0 (by omega) rj re i1 i2 s9 k)
                | (rw [if_neg (ordB_n (if_pos (by omega)) (by omega))] at k; exact ih _ _ _ _ R h1 e0 (by omega) (by omega) a0 (by omega) rj re i1 i2 s9 k)
                | (have rb2 : 0 ≤ R (othM e i) ∧ R (othM e i) ≤ 1073741824 ∧ R (othM e i) = orvM Y ff tt (allM x) x.toNat e (othM e i) := by omega
                   first
                   | rw [if_pos (ordB_y (if_neg (by omega)) (by omega) (by omega) (by omega))] at k
                   | rw [if_pos (ordB_y (if_pos (by omega)) (by omega) (by omega) (by omega))] at k
                   refine ih _ (a + orvM Y ff tt (allM x) x.toNat e (othM e i)) _ _ (fset R (e : Int) (R e + R (othM e i))) _ e0 (by omega) (by omega) (by omega) (by omega) (fun j j0 => (fset_ne (by omega)).trans (rj j j0)) (by rw [fset_at, re, rb2.2.2]) ((up_ne (by decide)).trans i1) (up_at _ _ _) (s9.fr (Fr.one _ _ _) (by decide)) (fun h2 R2 l7 l8 l9 q1 q2 q3 q4 => ?_)
                   exact k h2 R2 l7 l8 l9 (Fr.tr (Fr.one _ _ _) q1) (fun j j0 => (q2 j j0).trans (fset_ne (by omega))) q3 q4)
              · intro hc22
                refine BX3_countOrders_106  ?_ ?_
                · intro hc23
                  refine BX3_countOrders_133 (by first | omega | (simp only [Ls_len]; omega) | assumption | exact Ls_get (by omega) (by omega) | rfl | decide) ?_
                  first
                  | (rw [if_neg (ordB_n (if_neg (by omega)) (by omega))] at k; exact ih _ _ _ _ R h1 e0 (by omega) (by omega) a0 (by omega) rj re i1 i2 s9 k)
                  | (rw [if_neg (ordB_n (if_pos (by omega)) (by omega))] at k; exact ih _ _ _ _ R h1 e0 (by omega) (by omega) a0 (by omega) rj re i1 i2 s9 k)
                  | (have rb2 : 0 ≤ R (othM e i) ∧ R (othM e i) ≤ 1073741824 ∧ R (othM e i) = orvM Y ff tt (allM x) x.toNat e (othM e i) := by omega
                     first
                     | rw [if_pos (ordB_y (if_neg (by omega)) (by omega) (by omega) (by omega))] at k
                     | rw [if_pos (ordB_y (if_pos (by omega)) (by omega) (by omega) (by omega))] at k
                     refine ih _ (a + orvM Y ff tt (allM x) x.toNat e (othM e i)) _ _ (fset R (e : Int) (R e + R (othM e i))) _ e0 (by omega) (by omega) (by omega) (by omega) (fun j j0 => (fset_ne (by omega)).trans (rj j j0)) (by rw [fset_at, re, rb2.2.2]) ((up_ne (by decide)).trans i1) (up_at _ _ _) (s9.fr (Fr.one _ _ _) (by decide)) (fun h2 R2 l7 l8 l9 q1 q2 q3 q4 => ?_)
                     exact k h2 R2 l7 l8 l9 (Fr.tr (Fr.one _ _ _) q1) (fun j j0 => (q2 j j0).trans (fset_ne (by omega))) q3 q4)
                · intro hc24
                  refine BX3_countOrders_116 (by first | assumption | exact up_at _ _ _ | (rw [up_ne (by omega)]; first | assumption | exact up_at _ _ _ | (rw [up_ne (by omega)]; assumption))) (by rfl) (by first | assumption | exact up_at _ _ _ | (rw [up_ne (by omega)]; first | assumption | exact up_at _ _ _ | (rw [up_ne (by omega)]; assumption))) (by first | omega | (simp only [Ls_len]; omega) | assumption | exact Ls_get (by omega) (by omega) | rfl | decide) (by first | exact Ls_get (by omega) (by omega) | assumption) (by first | omega | (simp only [Ls_len]; omega) | assumption | exact Ls_get (by omega) (by omega) | rfl | decide) (by first | omega | (simp only [Ls_len]; omega) | assumption | exact Ls_get (by omega) (by omega) | rfl | decide) (by first | exact Ls_get (by omega) (by omega) | assumption) (by first | omega | (simp only [Ls_len]; omega) | assumption | exact Ls_get (by omega) (by omega) | rfl | decide) (by first | omega | (simp only [Ls_len]; omega) | assumption | exact Ls_get (by omega) (by omega) | rfl | decide) ?_
                  try rw [Ls_set (by omega)]
                  refine BX3_countOrders_133 (by first | omega | (simp only [Ls_len]; omega) | assumption | exact Ls_get (by omega) (by omega) | rfl | decide) ?_
                  first
                  | (rw [if_neg (ordB_n (if_neg (by omega)) (by omega))] at k; exact ih _ _ _ _ R h1 e0 (by omega) (by omega) a0 (by omega) rj re i1 i2 s9 k)
                  | (rw [if_neg (ordB_n (if_pos (by omega)) (by omega))] at k; exact ih _ _ _ _ R h1 e0 (by omega) (by omega) a0 (by omega) rj re i1 i2 s9 k)
                  | (have rb2 : 0 ≤ R (othM e i) ∧ R (othM e i) ≤ 1073741824 ∧ R (othM e i) = orvM Y ff tt (allM x) x.toNat e (othM e i) := by omega
                     first
                     | rw [if_pos (ordB_y (if_neg (by omega)) (by omega) (by omega) (by omega))] at k
                     | rw [if_pos (ordB_y (if_pos (by omega)) (by omega) (by omega) (by omega))] at k
                     refine ih _ (a + orvM Y ff tt (allM x) x.toNat e (othM e i)) _ _ (fset R (e : Int) (R e + R (othM e i))) _ e0 (by omega) (by omega) (by omega) (by omega) (fun j j0 => (fset_ne (by omega)).trans (rj j j0)) (by rw [fset_at, re, rb2.2.2]) ((up_ne (by decide)).trans i1) (up_at _ _ _) (s9.fr (Fr.one _ _ _) (by decide)) (fun h2 R2 l7 l8 l9 q1 q2 q3 q4 => ?_)
                     exact k h2 R2 l7 l8 l9 (Fr.tr (Fr.one _ _ _) q1) (fun j j0 => (q2 j j0).trans (fset_ne (by omega))) q3 q4)
  have in10 : ∀ (m e : Nat) (l7 l8 l9 : Option aV) (R : Int → Int) (h1 : aH), e + m = (allM x).toNat + 1 → (∀ j : Nat, j < e → R j = orvM Y ff tt (allM x) x.toNat e j) → h1 292 = cO 3 [vR (some 293), vR (some 294), vR (some 295), vR (some 296), vI n1, vI n2] → h1 296 = cJ (Ls 256 R) → IsSa h1 133 Y → (∀ h2 R2, Fr h1 h2 296 1 → h2 296 = cJ (Ls 256 R2) → Q (some (vL (ordM Y x ff tt))) h2 n) → Rn (d + 2) bc bs mX3_countOrders 10 [some (vR (some 292)), some (vR (some 133)), some (vI x), some (vI ff), some (vI tt), some (vI (allM x)), some (vI (e : Int)), l7, l8, l9] [] h1 n Q := by
    intro m
    induction m with
    | zero =>
      intro e l7 l8 l9 R h1 em rj i1 i2 s k
      have l1 := Ls_len 256 R
      have z1 := rj (allM x).toNat (by omega)
      rw [show (((allM x).toNat : Nat) : Int) = allM x by omega, show e = (allM x).toNat + 1 by omega] at z1
      refine BX3_countOrders_10  ?_ ?_
      · intro hc1
        refine BX3_countOrders_145  ?_ ?_
        · intro hc2
          refine BX3_countOrders_170  ?_
          (exfalso; omega)
        · intro hc3
          refine BX3_countOrders_150 (by first | assumption | exact up_at _ _ _ | (rw [up_ne (by omega)]; first | assumption | exact up_at _ _ _ | (rw [up_ne (by omega)]; assumption))) (by rfl) (by first | assumption | exact up_at _ _ _ | (rw [up_ne (by omega)]; first | assumption | exact up_at _ _ _ | (rw [up_ne (by omega)]; assumption))) (by first | omega | (simp only [Ls_len]; omega) | assumption | exact Ls_get (by omega) (by omega) | rfl | decide) (by first | omega | (simp only [Ls_len]; omega) | assumption | exact Ls_get (by omega) (by omega) | rfl | decide) ?_ ?_
          · intro hc4
            refine BX3_countOrders_170  ?_
            (exfalso; omega)
          · intro hc5
            refine BX3_countOrders_160 (by first | assumption | exact up_at _ _ _ | (rw [up_ne (by omega)]; first | assumption | exact up_at _ _ _ | (rw [up_ne (by omega)]; assumption))) (by rfl) (by first | assumption | exact up_at _ _ _ | (rw [up_ne (by omega)]; first | assumption | exact up_at _ _ _ | (rw [up_ne (by omega)]; assumption))) (by first | omega | (simp only [Ls_len]; omega) | assumption | exact Ls_get (by omega) (by omega) | rfl | decide) (by first | exact Ls_get (by omega) (by omega) | assumption) (by first | omega | (simp only [Ls_len]; omega) | assumption | exact Ls_get (by omega) (by omega) | rfl | decide) ?_
            (rw [z1]; exact k _ R (Fr.rf h1 296 1) i2)
      · intro hc6
        refine BX3_countOrders_17 (by first | assumption | exact up_at _ _ _ | (rw [up_ne (by omega)]; first | assumption | exact up_at _ _ _ | (rw [up_ne (by omega)]; assumption))) (by rfl) (by first | assumption | exact up_at _ _ _ | (rw [up_ne (by omega)]; first | assumption | exact up_at _ _ _ | (rw [up_ne (by omega)]; assumption))) (by first | omega | (simp only [Ls_len]; omega) | assumption | exact Ls_get (by omega) (by omega) | rfl | decide) (by first | omega | (simp only [Ls_len]; omega) | assumption | exact Ls_get (by omega) (by omega) | rfl | decide) ?_ ?_
        · intro hc7
          refine BX3_countOrders_145  ?_ ?_
          · intro hc8
            refine BX3_countOrders_170  ?_
            (exfalso; omega)
          · intro hc9
            refine BX3_countOrders_150 (by first | assumption | exact up_at _ _ _ | (rw [up_ne (by omega)]; first | assumption | exact up_at _ _ _ | (rw [up_ne (by omega)]; assumption))) (by rfl) (by first | assumption | exact up_at _ _ _ | (rw [up_ne (by omega)]; first | assumption | exact up_at _ _ _ | (rw [up_ne (by omega)]; assumption))) (by first | omega | (simp only [Ls_len]; omega) | assumption | exact Ls_get (by omega) (by omega) | rfl | decide) (by first | omega | (simp only [Ls_len]; omega) | assumption | exact Ls_get (by omega) (by omega) | rfl | decide) ?_ ?_
            · intro hc10
              refine BX3_countOrders_170  ?_
              (exfalso; omega)
            · intro hc11
              refine BX3_countOrders_160 (by first | assumption | exact up_at _ _ _ | (rw [up_ne (by omega)]; first | assumption | exact up_at _ _ _ | (rw [up_ne (by omega)]; assumption))) (by rfl) (by first | assumption | exact up_at _ _ _ | (rw [up_ne (by omega)]; first | assumption | exact up_at _ _ _ | (rw [up_ne (by omega)]; assumption))) (by first | omega | (simp only [Ls_len]; omega) | assumption | exact Ls_get (by omega) (by omega) | rfl | decide) (by first | exact Ls_get (by omega) (by omega) | assumption) (by first | omega | (simp only [Ls_len]; omega) | assumption | exact Ls_get (by omega) (by omega) | rfl | decide) ?_
              (rw [z1]; exact k _ R (Fr.rf h1 296 1) i2)
        · intro hc12
          refine BX3_countOrders_27 (by first | assumption | exact up_at _ _ _ | (rw [up_ne (by omega)]; first | assumption | exact up_at _ _ _ | (rw [up_ne (by omega)]; assumption))) (by rfl) ?_ ?_
          · intro hc13
            refine BX3_countOrders_42 (by first | assumption | exact up_at _ _ _ | (rw [up_ne (by omega)]; first | assumption | exact up_at _ _ _ | (rw [up_ne (by omega)]; assumption))) (by first | omega | (simp only [Ls_len]; omega) | assumption | exact Ls_get (by omega) (by omega) | rfl | decide) (by first | omega | (simp only [Ls_len]; omega) | assumption | exact Ls_get (by omega) (by omega) | rfl | decide) (by first | omega | (simp only [Ls_len]; omega) | assumption | exact Ls_get (by omega) (by omega) | rfl | decide) ?_
            try rw [Ls_set (by omega)]
            refine BX3_countOrders_44  ?_
            (exfalso; omega)
          · intro hc14
            refine BX3_countOrders_38 (by first | assumption | exact up_at _ _ _ | (rw [up_ne (by omega)]; first | assumption | exact up_at _ _ _ | (rw [up_ne (by omega)]; assumption))) (by first | omega | (simp only [Ls_len]; omega) | assumption | exact Ls_get (by omega) (by omega) | rfl | decide) (by first | omega | (simp only [Ls_len]; omega) | assumption | exact Ls_get (by omega) (by omega) | rfl | decide) (by first | omega | (simp only [Ls_len]; omega) | assumption | exact Ls_get (by omega) (by omega) | rfl | decide) ?_
            try rw [Ls_set (by omega)]
            refine BX3_countOrders_44  ?_
            (exfalso; omega)
    | succ m ih =>
      intro e l7 l8 l9 R h1 em rj i1 i2 s k
      have l1 := Ls_len 256 R
      have s9 := s
      obtain ⟨s1, s2, s3, s4, s5, s6, s7, s8⟩ := s
      refine BX3_countOrders_10  ?_ ?_
      · intro hc1
        refine BX3_countOrders_145  ?_ ?_
        · intro hc2
          refine BX3_countOrders_170  ?_
          (exfalso; omega)
        · intro hc3
          refine BX3_countOrders_150 (by first | assumption | exact up_at _ _ _ | (rw [up_ne (by omega)]; first | assumption | exact up_at _ _ _ | (rw [up_ne (by omega)]; assumption))) (by rfl) (by first | assumption | exact up_at _ _ _ | (rw [up_ne (by omega)]; first | assumption | exact up_at _ _ _ | (rw [up_ne (by omega)]; assumption))) (by first | omega | (simp only [Ls_len]; omega) | assumption | exact Ls_get (by omega) (by omega) | rfl | decide) (by first | omega | (simp only [Ls_len]; omega) | assumption | exact Ls_get (by omega) (by omega) | rfl | decide) ?_ ?_
          · intro hc4
            refine BX3_countOrders_170  ?_
            (exfalso; omega)
          · intro hc5
            refine BX3_countOrders_160 (by first | assumption | exact up_at _ _ _ | (rw [up_ne (by omega)]; first | assumption | exact up_at _ _ _ | (rw [up_ne (by omega)]; assumption))) (by rfl) (by first | assumption | exact up_at _ _ _ | (rw [up_ne (by omega)]; first | assumption | exact up_at _ _ _ | (rw [up_ne (by omega)]; assumption))) (by first | omega | (simp only [Ls_len]; omega) | assumption | exact Ls_get (by omega) (by omega) | rfl | decide) (by first | exact Ls_get (by omega) (by omega) | assumption) (by first | omega | (simp only [Ls_len]; omega) | assumption | exact Ls_get (by omega) (by omega) | rfl | decide) ?_
            (exfalso; omega)
      · intro hc6
        refine BX3_countOrders_17 (by first | assumption | exact up_at _ _ _ | (rw [up_ne (by omega)]; first | assumption | exact up_at _ _ _ | (rw [up_ne (by omega)]; assumption))) (by rfl) (by first | assumption | exact up_at _ _ _ | (rw [up_ne (by omega)]; first | assumption | exact up_at _ _ _ | (rw [up_ne (by omega)]; assumption))) (by first | omega | (simp only [Ls_len]; omega) | assumption | exact Ls_get (by omega) (by omega) | rfl | decide) (by first | omega | (simp only [Ls_len]; omega) | assumption | exact Ls_get (by omega) (by omega) | rfl | decide) ?_ ?_
        · intro hc7
          refine BX3_countOrders_145  ?_ ?_
          · intro hc8
            refine BX3_countOrders_170  ?_
            (exfalso; omega)
          · intro hc9
            refine BX3_countOrders_150 (by first | assumption | exact up_at _ _ _ | (rw [up_ne (by omega)]; first | assumption | exact up_at _ _ _ | (rw [up_ne (by omega)]; assumption))) (by rfl) (by first | assumption | exact up_at _ _ _ | (rw [up_ne (by omega)]; first | assumption | exact up_at _ _ _ | (rw [up_ne (by omega)]; assumption))) (by first | omega | (simp only [Ls_len]; omega) | assumption | exact Ls_get (by omega) (by omega) | rfl | decide) (by first | omega | (simp only [Ls_len]; omega) | assumption | exact Ls_get (by omega) (by omega) | rfl | decide) ?_ ?_
            · intro hc10
              refine BX3_countOrders_170  ?_
              (exfalso; omega)
            · intro hc11
              refine BX3_countOrders_160 (by first | assumption | exact up_at _ _ _ | (rw [up_ne (by omega)]; first | assumption | exact up_at _ _ _ | (rw [up_ne (by omega)]; assumption))) (by rfl) (by first | assumption | exact up_at _ _ _ | (rw [up_ne (by omega)]; first | assumption | exact up_at _ _ _ | (rw [up_ne (by omega)]; assumption))) (by first | omega | (simp only [Ls_len]; omega) | assumption | exact Ls_get (by omega) (by omega) | rfl | decide) (by first | exact Ls_get (by omega) (by omega) | assumption) (by first | omega | (simp only [Ls_len]; omega) | assumption | exact Ls_get (by omega) (by omega) | rfl | decide) ?_
              (exfalso; omega)
        · intro hc12
          refine BX3_countOrders_27 (by first | assumption | exact up_at _ _ _ | (rw [up_ne (by omega)]; first | assumption | exact up_at _ _ _ | (rw [up_ne (by omega)]; assumption))) (by rfl) ?_ ?_
          · intro hc13
            refine BX3_countOrders_42 (by first | assumption | exact up_at _ _ _ | (rw [up_ne (by omega)]; first | assumption | exact up_at _ _ _ | (rw [up_ne (by omega)]; assumption))) (by first | omega | (simp only [Ls_len]; omega) | assumption | exact Ls_get (by omega) (by omega) | rfl | decide) (by first | omega | (simp only [Ls_len]; omega) | assumption | exact Ls_get (by omega) (by omega) | rfl | decide) (by first | omega | (simp only [Ls_len]; omega) | assumption | exact Ls_get (by omega) (by omega) | rfl | decide) ?_
            try rw [Ls_set (by omega)]
            refine BX3_countOrders_44  ?_
            first
            | (have e0 : ¬ e = 0 := by omega
               refine in47 e x.toNat 0 0 _ _ (fset R (e : Int) 0) _ (by omega) (by omega) (by omega) (by omega) (by omega) (fun j j0 => (fset_ne (by omega)).trans (rj j j0)) (fset_at _ _ _) ((up_ne (by decide)).trans i1) (up_at _ _ _) (s9.fr (Fr.one _ _ _) (by decide)) (fun h2 R2 l7 l8 l9 q1 q2 q3 q4 => ?_)
               have q5 := Fr.tr (Fr.one h1 296 (cJ (Ls 256 (fset R (e : Int) 0)))) q1
               have z := ih (e + 1) l7 l8 l9 R2 h2 (by omega) (fun j j0 => by
                 show R2 j = fset _ _ _ _
                 by_cases q : j = e
                 · subst q; rw [fset_at, q3, if_neg e0]
                 · rw [fset_ne (by omega), q2 j (by omega), fset_ne (by omega)]; exact rj j (by omega)) ((q5 292 (by decide)).trans i1) q4 (s9.fr q5 (by decide)) (fun h3 R3 p1 p2 => k h3 R3 (q5.tr p1) p2)
               rw [show ((e + 1 : Nat) : Int) = (e : Int) + 1 by omega] at z
               exact z)
            | (have e0 : e = 0 := by omega
               refine in47 e x.toNat 0 1 _ _ (fset R (e : Int) 1) _ (by omega) (by omega) (by omega) (by omega) (by omega) (fun j j0 => (fset_ne (by omega)).trans (rj j j0)) (fset_at _ _ _) ((up_ne (by decide)).trans i1) (up_at _ _ _) (s9.fr (Fr.one _ _ _) (by decide)) (fun h2 R2 l7 l8 l9 q1 q2 q3 q4 => ?_)
               have q5 := Fr.tr (Fr.one h1 296 (cJ (Ls 256 (fset R (e : Int) 1)))) q1
               have z := ih (e + 1) l7 l8 l9 R2 h2 (by omega) (fun j j0 => by
                 show R2 j = fset _ _ _ _
                 by_cases q : j = e
                 · subst q; rw [fset_at, q3, if_pos e0]
                 · rw [fset_ne (by omega), q2 j (by omega), fset_ne (by omega)]; exact rj j (by omega)) ((q5 292 (by decide)).trans i1) q4 (s9.fr q5 (by decide)) (fun h3 R3 p1 p2 => k h3 R3 (q5.tr p1) p2)
               rw [show ((e + 1 : Nat) : Int) = (e : Int) + 1 by omega] at z
               exact z)
          · intro hc14
            refine BX3_countOrders_38 (by first | assumption | exact up_at _ _ _ | (rw [up_ne (by omega)]; first | assumption | exact up_at _ _ _ | (rw [up_ne (by omega)]; assumption))) (by first | omega | (simp only [Ls_len]; omega) | assumption | exact Ls_get (by omega) (by omega) | rfl | decide) (by first | omega | (simp only [Ls_len]; omega) | assumption | exact Ls_get (by omega) (by omega) | rfl | decide) (by first | omega | (simp only [Ls_len]; omega) | assumption | exact Ls_get (by omega) (by omega) | rfl | decide) ?_
            try rw [Ls_set (by omega)]
            refine BX3_countOrders_44  ?_
            first
            | (have e0 : ¬ e = 0 := by omega
               refine in47 e x.toNat 0 0 _ _ (fset R (e : Int) 0) _ (by omega) (by omega) (by omega) (by omega) (by omega) (fun j j0 => (fset_ne (by omega)).trans (rj j j0)) (fset_at _ _ _) ((up_ne (by decide)).trans i1) (up_at _ _ _) (s9.fr (Fr.one _ _ _) (by decide)) (fun h2 R2 l7 l8 l9 q1 q2 q3 q4 => ?_)
               have q5 := Fr.tr (Fr.one h1 296 (cJ (Ls 256 (fset R (e : Int) 0)))) q1
               have z := ih (e + 1) l7 l8 l9 R2 h2 (by omega) (fun j j0 => by
                 show R2 j = fset _ _ _ _
                 by_cases q : j = e
                 · subst q; rw [fset_at, q3, if_neg e0]
                 · rw [fset_ne (by omega), q2 j (by omega), fset_ne (by omega)]; exact rj j (by omega)) ((q5 292 (by decide)).trans i1) q4 (s9.fr q5 (by decide)) (fun h3 R3 p1 p2 => k h3 R3 (q5.tr p1) p2)
               rw [show ((e + 1 : Nat) : Int) = (e : Int) + 1 by omega] at z
               exact z)
            | (have e0 : e = 0 := by omega
               refine in47 e x.toNat 0 1 _ _ (fset R (e : Int) 1) _ (by omega) (by omega) (by omega) (by omega) (by omega) (fun j j0 => (fset_ne (by omega)).trans (rj j j0)) (fset_at _ _ _) ((up_ne (by decide)).trans i1) (up_at _ _ _) (s9.fr (Fr.one _ _ _) (by decide)) (fun h2 R2 l7 l8 l9 q1 q2 q3 q4 => ?_)
               have q5 := Fr.tr (Fr.one h1 296 (cJ (Ls 256 (fset R (e : Int) 1)))) q1
               have z := ih (e + 1) l7 l8 l9 R2 h2 (by omega) (fun j j0 => by
                 show R2 j = fset _ _ _ _
                 by_cases q : j = e
                 · subst q; rw [fset_at, q3, if_pos e0]
                 · rw [fset_ne (by omega), q2 j (by omega), fset_ne (by omega)]; exact rj j (by omega)) ((q5 292 (by decide)).trans i1) q4 (s9.fr q5 (by decide)) (fun h3 R3 p1 p2 => k h3 R3 (q5.tr p1) p2)
               rw [show ((e + 1 : Nat) : Int) = (e : Int) + 1 by omega] at z
               exact z)
  have ea : shl32 1 x - 1 = allM x := rfl
  refine BX3_countOrders_0 (by first | omega | (simp only [Ls_len]; omega) | assumption | exact Ls_get (by omega) (by omega) | rfl | decide) ?_
  (rw [ea]; exact in10 ((allM x).toNat + 1) 0 _ _ _ f2 _ (by omega) (fun j j0 => by omega) i1 i2 s k)
end ORD
section ORD2
variable {d bc bs n : Nat} {g h : aH} {Q : aQ} {W V : Int → Int → Int} {X : Int → Tx} {F : Int → Int}
theorem P_orders {x : Int} (s : IsPo g h W V X F) (k : ∀ h1, IsPo g h1 W V X F → Q (some (vL (aOrders W x))) h1 n) : Rn (d + 30) bc bs mX12_orders 0 [some (vR (some 1)), some (vI x)] [] h n Q := by
  obtain ⟨fp, p1, w, v, tp, gr, ⟨lx, la⟩, ro, ri, Gx, gl⟩ := id s; have w1 := w.1; have sh := w.2.1; have se := w.2.2.1; obtain ⟨Ts, ps, st, ste⟩ := w.2.2.2.1; have sa := w.2.2.2.2.1; have sh1 := sh.1; have se1 := se.1; have st1 := st.1; have sa1 := sa.1; obtain ⟨tl, la1⟩ := la.ob; have gl1 := gl.1; have bk0 := se.2.2; have bk1 := bk0.1
  obtain ⟨z1, z2, z3, z4, z5, z6, ri1, ri2, ri3, ri4, ri5⟩ := id ri
  unfold aOrders at k
  refine BX12_orders_0  ?_
  refine R_X12_within  ?_ ?_
  · intro w1 w2
    refine BX12_orders_7  ?_ ?_
    · intro hc1
      refine BX12_orders_14 (by first | assumption | exact up_at _ _ _ | (rw [up_ne (by omega)]; first | assumption | exact up_at _ _ _ | (rw [up_ne (by omega)]; assumption))) (by rfl) (by rfl) (by first | assumption | exact up_at _ _ _ | (rw [up_ne (by omega)]; first | assumption | exact up_at _ _ _ | (rw [up_ne (by omega)]; assumption))) (by rfl) (by first | assumption | exact up_at _ _ _ | (rw [up_ne (by omega)]; first | assumption | exact up_at _ _ _ | (rw [up_ne (by omega)]; assumption))) ?_
      refine R_X3_countOrders (by first | omega | (simp only [Ls_len]; omega) | assumption | exact Ls_get (by omega) (by omega) | rfl | decide) (by first | omega | (simp only [Ls_len]; omega) | assumption | exact Ls_get (by omega) (by omega) | rfl | decide) (by first | omega | (simp only [Ls_len]; omega) | assumption | exact Ls_get (by omega) (by omega) | rfl | decide) (by first | omega | (simp only [Ls_len]; omega) | assumption | exact Ls_get (by omega) (by omega) | rfl | decide) (by first | omega | (simp only [Ls_len]; omega) | assumption | exact Ls_get (by omega) (by omega) | rfl | decide) ?_
      intro h28 f28 r28 e28
      refine BX12_orders_31  ?_
      rw [if_pos (by omega)] at k
      exact k _ (s.rid (r28.wd (by decide) (by decide)) ⟨z1, z2, z3, z4, z5, f28, (r28 _ (by decide)).trans ri1, (r28 _ (by decide)).trans ri2, (r28 _ (by decide)).trans ri3, (r28 _ (by decide)).trans ri4, e28⟩)
    · intro hc2
      exact absurd hc2 (by decide)
  · intro w3
    refine BX12_orders_7  ?_ ?_
    · intro hc3
      exact absurd hc3 (by decide)
    · intro hc4
      refine BX12_orders_10  ?_
      (rw [if_neg (by omega)] at k; exact k _ s)
theorem P_sure {x a b : Int} (s : IsPo g h W V X F) (k : ∀ h1, IsPo g h1 W V X F → Q (some (vI (aSure W x a b))) h1 n) : Rn (d + 30) bc bs mX12_sure 0 [some (vR (some 1)), some (vI x), some (vI a), some (vI b), none, none, none, none, none] [] h n Q := by
  obtain ⟨fp, p1, w, v, tp, gr, ⟨lx, la⟩, ro, ri, Gx, gl⟩ := id s; have w1 := w.1; have sh := w.2.1; have se := w.2.2.1; obtain ⟨Ts, ps, st, ste⟩ := w.2.2.2.1; have sa := w.2.2.2.2.1; have sh1 := sh.1; have se1 := se.1; have st1 := st.1; have sa1 := sa.1; obtain ⟨tl, la1⟩ := la.ob; have gl1 := gl.1; have bk0 := se.2.2; have bk1 := bk0.1
  obtain ⟨z1, z2, z3, z4, z5, z6, ri1, ri2, ri3, ri4, ri5⟩ := id ri
  unfold aSure at k
  refine BX12_sure_0  ?_
  refine R_X12_within  ?_ ?_
  · intro w1 w2
    refine BX12_sure_7  ?_ ?_
    · intro hc1
      exact absurd hc1 (by decide)
    · intro hc2
      refine BX12_sure_10 (by first | omega | (simp only [Ls_len]; omega) | assumption | exact Ls_get (by omega) (by omega) | rfl | decide) ?_
      refine R_X12_within  ?_ ?_
      · intro w1 w2
        refine BX12_sure_18  ?_ ?_
        · intro hc3
          exact absurd hc3 (by decide)
        · intro hc4
          refine BX12_sure_21 (by first | omega | (simp only [Ls_len]; omega) | assumption | exact Ls_get (by omega) (by omega) | rfl | decide) ?_
          refine R_X12_within  ?_ ?_
          · intro w1 w2
            refine BX12_sure_29  ?_ ?_
            · intro hc5
              exact absurd hc5 (by decide)
            · intro hc6
              refine BX12_sure_32  ?_ ?_
              · intro hc7
                refine BX12_sure_41  ?_ ?_
                · intro hc8
                  exact absurd hc8 (by decide)
                · intro hc9
                  refine BX12_sure_49  ?_
                  first | (rw [if_neg (by omega)] at k; exact k _ s) | (exfalso; omega)
              · intro hc10
                refine BX12_sure_37  ?_ ?_
                · intro hc11
                  refine BX12_sure_52 (by first | assumption | exact up_at _ _ _ | (rw [up_ne (by omega)]; first | assumption | exact up_at _ _ _ | (rw [up_ne (by omega)]; assumption))) (by rfl) (by rfl) (by first | assumption | exact up_at _ _ _ | (rw [up_ne (by omega)]; first | assumption | exact up_at _ _ _ | (rw [up_ne (by omega)]; assumption))) (by rfl) (by first | assumption | exact up_at _ _ _ | (rw [up_ne (by omega)]; first | assumption | exact up_at _ _ _ | (rw [up_ne (by omega)]; assumption))) ?_
                  refine R_X3_countOrders (by first | omega | (simp only [Ls_len]; omega) | assumption | exact Ls_get (by omega) (by omega) | rfl | decide) (by first | omega | (simp only [Ls_len]; omega) | assumption | exact Ls_get (by omega) (by omega) | rfl | decide) (by first | omega | (simp only [Ls_len]; omega) | assumption | exact Ls_get (by omega) (by omega) | rfl | decide) (by first | omega | (simp only [Ls_len]; omega) | assumption | exact Ls_get (by omega) (by omega) | rfl | decide) (by first | omega | (simp only [Ls_len]; omega) | assumption | exact Ls_get (by omega) (by omega) | rfl | decide) ?_
                  intro h66 f66 r66 e66
                  have s66 : IsPo g h66 W V X F := s.rid (r66.wd (by decide) (by decide)) ⟨z1, z2, z3, z4, z5, f66, (r66 _ (by decide)).trans ri1, (r66 _ (by decide)).trans ri2, (r66 _ (by decide)).trans ri3, (r66 _ (by decide)).trans ri4, e66⟩
                  have y1 := (r66 292 (by decide)).trans ri1
                  have y2 := (r66 1 (by decide)).trans p1
                  have y3 := (r66 2 (by decide)).trans w.1
                  have y4 := sa.fr r66 (by decide)
                  refine BX12_sure_69  ?_ ?_
                  · intro hc12
                    refine BX12_sure_81 (by first | assumption | exact up_at _ _ _ | (rw [up_ne (by omega)]; first | assumption | exact up_at _ _ _ | (rw [up_ne (by omega)]; assumption))) (by rfl) (by rfl) (by first | assumption | exact up_at _ _ _ | (rw [up_ne (by omega)]; first | assumption | exact up_at _ _ _ | (rw [up_ne (by omega)]; assumption))) (by rfl) (by first | assumption | exact up_at _ _ _ | (rw [up_ne (by omega)]; first | assumption | exact up_at _ _ _ | (rw [up_ne (by omega)]; assumption))) ?_
                    refine R_X3_countOrders (by first | omega | (simp only [Ls_len]; omega) | assumption | exact Ls_get (by omega) (by omega) | rfl | decide) (by first | omega | (simp only [Ls_len]; omega) | assumption | exact Ls_get (by omega) (by omega) | rfl | decide) (by first | omega | (simp only [Ls_len]; omega) | assumption | exact Ls_get (by omega) (by omega) | rfl | decide) (by first | omega | (simp only [Ls_len]; omega) | assumption | exact Ls_get (by omega) (by omega) | rfl | decide) (by first | omega | (simp only [Ls_len]; omega) | assumption | exact Ls_get (by omega) (by omega) | rfl | decide) ?_
                    intro h95 f95 r95 e95
                    have s95 : IsPo g h95 W V X F := s66.rid (r95.wd (by decide) (by decide)) ⟨z1, z2, z3, z4, z5, f95, (r95 _ (by decide)).trans ((r66 _ (by decide)).trans ri1), (r95 _ (by decide)).trans ((r66 _ (by decide)).trans ri2), (r95 _ (by decide)).trans ((r66 _ (by decide)).trans ri3), (r95 _ (by decide)).trans ((r66 _ (by decide)).trans ri4), e95⟩
                    refine BX12_sure_98  ?_ ?_
                    · intro hc13
                      refine BX12_sure_110  ?_ ?_
                      · intro hc14
                        refine BX12_sure_121  ?_
                        (rw [if_pos (by omega), if_neg (by omega), if_neg (by omega)] at k; exact k _ s95)
                      · intro hc15
                        refine BX12_sure_117  ?_
                        (rw [if_pos (by omega), if_neg (by omega), if_pos (by omega)] at k; exact k _ s95)
                    · intro hc16
                      refine BX12_sure_108  ?_
                      (rw [if_pos (by omega), if_pos (by omega)] at k; exact k _ s95)
                  · intro hc17
                    refine BX12_sure_78  ?_
                    (rw [if_neg (by omega)] at k; exact k _ s66)
                · intro hc18
                  exact absurd hc18 (by decide)
          · intro w3
            refine BX12_sure_29  ?_ ?_
            · intro hc19
              refine BX12_sure_41  ?_ ?_
              · intro hc20
                exact absurd hc20 (by decide)
              · intro hc21
                refine BX12_sure_49  ?_
                first | (rw [if_neg (by omega)] at k; exact k _ s) | (exfalso; omega)
            · intro hc22
              exact absurd hc22 (by decide)
      · intro w3
        refine BX12_sure_18  ?_ ?_
        · intro hc23
          refine BX12_sure_41  ?_ ?_
          · intro hc24
            exact absurd hc24 (by decide)
          · intro hc25
            refine BX12_sure_49  ?_
            first | (rw [if_neg (by omega)] at k; exact k _ s) | (exfalso; omega)
        · intro hc26
          exact absurd hc26 (by decide)
  · intro w3
    refine BX12_sure_7  ?_ ?_
    · intro hc27
      refine BX12_sure_41  ?_ ?_
      · intro hc28
        exact absurd hc28 (by decide)
      · intro hc29
        refine BX12_sure_49  ?_
        first | (rw [if_neg (by omega)] at k; exact k _ s) | (exfalso; omega)
    · intro hc30
      exact absurd hc30 (by decide)
end ORD2
