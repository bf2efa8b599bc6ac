/-! The greatest shared divisor, how likely it comes, where it was tossed, where nobody is. -/
theorem mod_half {s r : Nat} (hr : 0 < r) (hs : r < s) : 2 * (s % r) < s := by
  by_cases q : 2 * r ≤ s
  · have := Nat.mod_lt s hr
    omega
  · have : s % r = s - r := by
      rw [Nat.mod_eq_sub_mod (by omega), Nat.mod_eq_of_lt (by omega)]
    omega
section GCD
variable {d bc bs n : Nat} {h : aH} {Q : aQ}
theorem R_X12_sharedDivisor {A B : Nat} (hb : B ≤ 100000000) (k : Q (some (vL (Nat.gcd A B : Nat))) h n) : Rn d bc bs mX12_sharedDivisor 0 [some (vL A), none, some (vL B), none, none, none, none, none, none, none, none] [] h n Q := by
  have loop : ∀ (f : Nat) (i : Nat) (b s : Nat) (l9 l10 : Option aV), i + 2 * f < 99 → s < 2 ^ f → Nat.gcd b s = Nat.gcd A B → Rn d bc bs mX12_sharedDivisor 9 [some (vL A), none, some (vL B), none, some (vL b), none, some (vL s), none, some (vI i), l9, l10] [] h n Q := by
    intro f
    induction f with
    | zero =>
      intro i b s l9 l10 hi hs hg
      have e : s = 0 := by omega
      subst e
      rw [Nat.gcd_zero_right] at hg
      rw [← hg] at k
      refine BX12_sharedDivisor_9  ?_ ?_
      · intro hc1
        first
        | (exfalso; omega)
        | (
            refine BX12_sharedDivisor_44  ?_
            exact k
          )
      · intro hc2
        first
        | (exfalso; omega)
        | (
            refine BX12_sharedDivisor_16  ?_ ?_
            · intro hc3
              first
              | (exfalso; omega)
              | (
                  refine BX12_sharedDivisor_44  ?_
                  exact k
                )
            · intro hc4
              first
              | (exfalso; omega)
              | (
                  (exfalso; omega)
                )
          )
    | succ f ih =>
      intro i b s l9 l10 hi hs hg
      by_cases s0 : s = 0
      · subst s0
        rw [Nat.gcd_zero_right] at hg
        rw [← hg] at k
        refine BX12_sharedDivisor_9  ?_ ?_
        · intro hc1
          first
          | (exfalso; omega)
          | (
              refine BX12_sharedDivisor_44  ?_
              exact k
            )
        · intro hc2
          first
          | (exfalso; omega)
          | (
              refine BX12_sharedDivisor_16  ?_ ?_
              · intro hc3
                first
                | (exfalso; omega)
                | (
                    refine BX12_sharedDivisor_44  ?_
                    exact k
                  )
              · intro hc4
                first
                | (exfalso; omega)
                | (
                    (exfalso; omega)
                  )
            )
      · have e1 : Int.tmod (b : Int) s = ((b % s : Nat) : Int) := by rw [Int.tmod_eq_emod_of_nonneg (by omega)]; rfl
        have hr := Nat.mod_lt b (show 0 < s by omega)
        have hg1 : Nat.gcd s (b % s) = Nat.gcd A B := by rw [← hg, Nat.gcd_comm b s, Nat.gcd_rec s b, Nat.gcd_comm]
        have step : ∀ l9 l10, Rn d bc bs mX12_sharedDivisor 9 [some (vL A), none, some (vL B), none, some (vL s), none, some (vL ((b % s : Nat) : Int)), none, some (vI ((i : Int) + 1)), l9, l10] [] h n Q := by
          intro l9 l10
          generalize b % s = r at hr hg1
          by_cases r0 : r = 0
          · subst r0
            rw [Nat.gcd_zero_right] at hg1
            rw [← hg1] at k
            refine BX12_sharedDivisor_9  ?_ ?_
            · intro hc1
              first
              | (exfalso; omega)
              | (
                  refine BX12_sharedDivisor_44  ?_
                  exact k
                )
            · intro hc2
              first
              | (exfalso; omega)
              | (
                  refine BX12_sharedDivisor_16  ?_ ?_
                  · intro hc3
                    first
                    | (exfalso; omega)
                    | (
                        refine BX12_sharedDivisor_44  ?_
                        exact k
                      )
                  · intro hc4
                    first
                    | (exfalso; omega)
                    | (
                        (exfalso; omega)
                      )
                )
          · have e2 : Int.tmod (s : Int) r = ((s % r : Nat) : Int) := by rw [Int.tmod_eq_emod_of_nonneg (by omega)]; rfl
            have hh := mod_half (s := s) (r := r) (by omega) hr
            have ih1 := ih (i + 2) r (s % r) (some (vL ((s % r : Nat) : Int))) none (by omega) (by rw [Nat.pow_succ] at hs; omega) (by rw [← hg1, Nat.gcd_comm s r, Nat.gcd_rec r s, Nat.gcd_comm])
            refine BX12_sharedDivisor_9  ?_ ?_
            · intro hc1
              first
              | (exfalso; omega)
              | (
                  (exfalso; omega)
                )
            · intro hc2
              first
              | (exfalso; omega)
              | (
                  refine BX12_sharedDivisor_16  ?_ ?_
                  · intro hc3
                    first
                    | (exfalso; omega)
                    | (
                        (exfalso; omega)
                      )
                  · intro hc4
                    first
                    | (exfalso; omega)
                    | (
                        refine BX12_sharedDivisor_23 (by first | omega | assumption | (simp only [Ls_len]; omega) | exact Ls_get (by omega) (by omega) | rfl | decide) (by first | omega | assumption | (simp only [Ls_len]; omega) | exact Ls_get (by omega) (by omega) | rfl | decide) ?_
                        rw [e2, show (i : Int) + 1 + 1 = ((i + 2 : Nat) : Int) by omega]
                        exact ih1
                      )
                )
        refine BX12_sharedDivisor_9  ?_ ?_
        · intro hc1
          first
          | (exfalso; omega)
          | (
              (exfalso; omega)
            )
        · intro hc2
          first
          | (exfalso; omega)
          | (
              refine BX12_sharedDivisor_16  ?_ ?_
              · intro hc3
                first
                | (exfalso; omega)
                | (
                    (exfalso; omega)
                  )
              · intro hc4
                first
                | (exfalso; omega)
                | (
                    refine BX12_sharedDivisor_23 (by first | omega | assumption | (simp only [Ls_len]; omega) | exact Ls_get (by omega) (by omega) | rfl | decide) (by first | omega | assumption | (simp only [Ls_len]; omega) | exact Ls_get (by omega) (by omega) | rfl | decide) ?_
                    rw [e1]
                    exact step _ _
                  )
            )
  refine BX12_sharedDivisor_0  ?_
  exact loop 27 0 A B none none (by decide) (by omega) rfl
end GCD
def allN (f : Int → Bool) : Nat → Bool
  | 0 => true
  | k + 1 => allN f k && f k
def fitB (W : Int → Int → Int) (p ph : Int) : Bool := allN (fun i => decide (drift (W 6) ph (W 2 (6 + i)).toNat p = W 2 i)) (W 2 52).toNat
def fitN (W : Int → Int → Int) (p : Int) : Int := cnt (fitB W p) 3
def sumN (f : Int → Int) : Nat → Int
  | 0 => 0
  | k + 1 => sumN f k + f k
def aTossed (W : Int → Int → Int) (w : Int) : Int := if w = 0 then bits (fun p => decide (fitN W p ≠ 0)) 10 else if w = 1 then sumN (fitN W) 10 else -1
theorem bits_or {f : Int → Bool} {k : Nat} (hk : k < 30) : or32 (bits f k + 2 ^ k) (shl32 1 k) = bits f k + 2 ^ k := by
  have b := bits_lt f k
  have e := or_bit b.1 b.2 hk
  have p := pow2_le (show k ≤ 29 by omega)
  have p9 : (2 : Int) ^ 29 = 536870912 := by decide
  have s1 := shl1 (k := (k : Int)) (by omega) (by omega)
  have z := pow2_pos k
  have c := cast_pow2 k
  rw [s1, show ((k : Int)).toNat = k from rfl, or32_nat b.1 (by omega) (by omega) (by omega)] at e
  rw [s1, show ((k : Int)).toNat = k from rfl, or32_nat (by omega) (by omega) (by omega) (by omega), ← e, Int.toNat_natCast, Nat.or_assoc, Nat.or_self]
section TOSSED
variable {d bc bs n : Nat} {g h : aH} {Q : aQ} {W V : Int → Int → Int} {X : Int → Tx} {F : Int → Int}
theorem R_X5_allFoundFrom {a z : Nat} {np p ph : Int} {pl lk cu Y : Int → Int} (s : IsSa h a Y) (e : IsSh h z np pl lk cu) (hc : okCu cu) (ha : a ≠ 0) (hz : z ≠ 0) (h0 : 0 ≤ Y 52) (h1 : Y 52 ≤ 6) (hY : ∀ i, 0 ≤ i → i < Y 52 → 0 ≤ Y (6 + i) ∧ Y (6 + i) ≤ 60) (p0 : 0 ≤ p) (p1 : p ≤ 9) (q0 : 0 ≤ ph) (q1 : ph ≤ 2) (kt : allN (fun i => decide (drift cu ph (Y (6 + i)).toNat p = Y i)) (Y 52).toNat = true → Q (some (vI 1)) h n) (kf : allN (fun i => decide (drift cu ph (Y (6 + i)).toNat p = Y i)) (Y 52).toNat = false → Q (some (vI 0)) h n) : Rn (d + 4) bc bs mX5_allFoundFrom 0 [some (vR (some a)), some (vR (some z)), some (vI p), some (vI ph), none] [] h n Q := by
  obtain ⟨s1, s2, s3, s4, s5, s6, s7, s8⟩ := s
  have l1 := Ls_len 6 Y
  have l2 := Ls_len 6 (off 6 Y)
  have fs : ∀ (f : Int → Bool) (m k : Nat), allN f k = false → allN f (k + m) = false := by
    intro f m
    induction m with
    | zero => intro k hk; exact hk
    | succ m ih => intro k hk; show (allN f (k + m) && f _) = false; rw [ih k hk]; rfl
  have loop : ∀ (m i : Nat), (i : Int) + m = Y 52 → allN (fun i => decide (drift cu ph (Y (6 + i)).toNat p = Y i)) i = true → Rn (d + 4) bc bs mX5_allFoundFrom 3 [some (vR (some a)), some (vR (some z)), some (vI p), some (vI ph), some (vI i)] [] h n Q := by
    intro m
    induction m with
    | zero =>
      intro i hi ht
      have e9 : i = (Y 52).toNat := by omega
      subst e9
      refine BX5_allFoundFrom_3 (by first | assumption | exact up_at _ _ _ | (rw [up_ne (by omega)]; first | assumption | exact up_at _ _ _ | (rw [up_ne (by omega)]; first | assumption | exact up_at _ _ _ | (rw [up_ne (by omega)]; assumption)))) (by rfl) ?_ ?_
      · intro hc1
        first
        | (exfalso; omega)
        | (
            refine BX5_allFoundFrom_47  ?_
            exact kt ht
          )
      · intro hc2
        first
        | (exfalso; omega)
        | (
            (exfalso; omega)
          )
    | succ m ih =>
      intro i hi ht
      have y1 := hY i (by omega) (by omega)
      have f1 : (Ls 6 (off 6 Y))[((i : Int)).toNat]? = some (Y (6 + i)) := Ls_get (by omega) (by omega)
      have f2 : (Ls 6 Y)[((i : Int)).toNat]? = some (Y i) := Ls_get (by omega) (by omega)
      have e1 := e.1
      have st : allN (fun i => decide (drift cu ph (Y (6 + i)).toNat p = Y i)) (i + 1) = decide (drift cu ph (Y (6 + i)).toNat p = Y i) := by rw [allN, ht]; rfl
      refine BX5_allFoundFrom_3 (by first | assumption | exact up_at _ _ _ | (rw [up_ne (by omega)]; first | assumption | exact up_at _ _ _ | (rw [up_ne (by omega)]; first | assumption | exact up_at _ _ _ | (rw [up_ne (by omega)]; assumption)))) (by rfl) ?_ ?_
      · intro hc1
        (exfalso; omega)
      · intro hc2
        refine BX5_allFoundFrom_12 (by first | assumption | exact up_at _ _ _ | (rw [up_ne (by omega)]; first | assumption | exact up_at _ _ _ | (rw [up_ne (by omega)]; first | assumption | exact up_at _ _ _ | (rw [up_ne (by omega)]; assumption)))) (by rfl) ?_
        refine R_X12_cell (by first | omega | assumption | (simp only [Ls_len]; omega) | exact Ls_get (by omega) (by omega) | rfl | decide) (by first | omega | assumption | (simp only [Ls_len]; omega) | exact Ls_get (by omega) (by omega) | rfl | decide) (by first | omega | assumption | (simp only [Ls_len]; omega) | exact Ls_get (by omega) (by omega) | rfl | decide) (by first | omega | assumption | (simp only [Ls_len]; omega) | exact Ls_get (by omega) (by omega) | rfl | decide) (by first | omega | assumption | (simp only [Ls_len]; omega) | exact Ls_get (by omega) (by omega) | rfl | decide) ?_
        refine BX5_allFoundFrom_24 (by first | assumption | exact up_at _ _ _ | (rw [up_ne (by omega)]; first | assumption | exact up_at _ _ _ | (rw [up_ne (by omega)]; first | assumption | exact up_at _ _ _ | (rw [up_ne (by omega)]; assumption)))) ?_
        refine R_X7_driftsTo (by first | omega | assumption | (simp only [Ls_len]; omega) | exact Ls_get (by omega) (by omega) | rfl | decide) (by first | omega | assumption | (simp only [Ls_len]; omega) | exact Ls_get (by omega) (by omega) | rfl | decide) (by first | omega | assumption | (simp only [Ls_len]; omega) | exact Ls_get (by omega) (by omega) | rfl | decide) (by first | omega | assumption | (simp only [Ls_len]; omega) | exact Ls_get (by omega) (by omega) | rfl | decide) (by first | omega | assumption | (simp only [Ls_len]; omega) | exact Ls_get (by omega) (by omega) | rfl | decide) (by first | omega | assumption | (simp only [Ls_len]; omega) | exact Ls_get (by omega) (by omega) | rfl | decide) (by first | omega | assumption | (simp only [Ls_len]; omega) | exact Ls_get (by omega) (by omega) | rfl | decide) ?_
        refine BX5_allFoundFrom_27 (by first | assumption | exact up_at _ _ _ | (rw [up_ne (by omega)]; first | assumption | exact up_at _ _ _ | (rw [up_ne (by omega)]; first | assumption | exact up_at _ _ _ | (rw [up_ne (by omega)]; assumption)))) (by rfl) ?_
        refine R_X12_cell (by first | omega | assumption | (simp only [Ls_len]; omega) | exact Ls_get (by omega) (by omega) | rfl | decide) (by first | omega | assumption | (simp only [Ls_len]; omega) | exact Ls_get (by omega) (by omega) | rfl | decide) (by first | omega | assumption | (simp only [Ls_len]; omega) | exact Ls_get (by omega) (by omega) | rfl | decide) (by first | omega | assumption | (simp only [Ls_len]; omega) | exact Ls_get (by omega) (by omega) | rfl | decide) (by first | omega | assumption | (simp only [Ls_len]; omega) | exact Ls_get (by omega) (by omega) | rfl | decide) ?_
        refine BX5_allFoundFrom_36  ?_ ?_
        · intro hc3
          refine BX5_allFoundFrom_41 (by first | omega | assumption | (simp only [Ls_len]; omega) | exact Ls_get (by omega) (by omega) | rfl | decide) ?_
          exact ih (i + 1) (by omega) (by rw [st]; exact decide_eq_true (by assumption))
        · intro hc4
          refine BX5_allFoundFrom_39  ?_
          refine kf ?_
          have z := fs _ ((Y 52).toNat - (i + 1)) (i + 1) (by rw [st]; exact decide_eq_false (by assumption))
          rw [show i + 1 + ((Y 52).toNat - (i + 1)) = (Y 52).toNat by omega] at z
          exact z
  refine BX5_allFoundFrom_0  ?_
  exact loop (Y 52).toNat 0 (by omega) rfl
theorem sumN_ge {f : Int → Int} (hf : ∀ i, 0 ≤ f i ∧ f i ≤ 3) : ∀ k, 0 ≤ sumN f k ∧ sumN f k ≤ 3 * k := by
  intro k
  induction k with
  | zero => exact ⟨z00, z00⟩
  | succ k ih => have := hf k; unfold sumN; omega
theorem P_tossed {u : Int} (s : IsPo g h W V X F) (ok : okW W) (k : ∀ h1, IsPo g h1 W V X F → Q (some (vI (aTossed W u))) h1 n) : Rn (d + 30) bc bs mX12_tossed 0 [some (vR (some 1)), some (vI u), none, none, none, none] [] h n Q := by
  obtain ⟨fp, p1, w, v, tp, gr, ⟨lx, la⟩, ro, ri, Gx, gl⟩ := id s; have w1 := w.1; have sh := w.2.1; have se := w.2.2.1; obtain ⟨Ts, ps, st, ste⟩ := w.2.2.2.1; have sa := w.2.2.2.2.1; have sh1 := sh.1; have se1 := se.1; have st1 := st.1; have sa1 := sa.1; obtain ⟨tl, la1⟩ := la.ob; have gl1 := gl.1; have bk0 := se.2.2; have bk1 := bk0.1
  obtain ⟨o1, o2, o3, o4, o5⟩ := id ok; have o11 := o1.1; have o21 := o2.1; have o51 := o5.1; have o52 := o5.2.1; have o53 := o5.2.2.1; have o54 := o5.2.2.2.1
  have o12 := o1.2.2
  have k1 := k h s
  clear k
  unfold aTossed at k1
  have hY : ∀ i, 0 ≤ i → i < W 2 52 → 0 ≤ W 2 (6 + i) ∧ W 2 (6 + i) ≤ 60 := fun i i0 i1 => by have := o5.2.2.2.2.1 i i0 i1; omega
  have hs := sumN_ge (f := fitN W) (fun i => cnt_ge (fitB W i) 3)
  have inner : ∀ (m j i : Nat) , j + m = 3 → i < 10 → (Rn (d + 30) bc bs mX12_tossed 18 [some (vR (some 1)), some (vI u), some (vI (bits (fun p => decide (fitN W p ≠ 0)) (i + 1))), some (vI (sumN (fitN W) (i + 1))), some (vI ((i : Int) + 1)), some (vI 3)] [] h n Q) → Rn (d + 30) bc bs mX12_tossed 28 [some (vR (some 1)), some (vI u), some (vI (bits (fun p => decide (fitN W p ≠ 0)) i + (if cnt (fitB W i) j = 0 then 0 else 2 ^ i))), some (vI (sumN (fitN W) i + cnt (fitB W i) j)), some (vI i), some (vI j)] [] h n Q := by
    intro m
    induction m with
    | zero =>
      intro j i hj hi K
      have e : j = 3 := by omega
      subst e
      have hs1 := hs i
      have c3 := cnt_ge (fitB W i) 3
      rw [bits, sumN] at K
      rw [show cnt (fitB W i) 3 = fitN W i from rfl] at c3 ⊢
      refine BX12_tossed_28  ?_ ?_
      · intro hc1
        first
        | (exfalso; omega)
        | (
            refine BX12_tossed_77 (by first | omega | assumption | (simp only [Ls_len]; omega) | exact Ls_get (by omega) (by omega) | rfl | decide) ?_
            by_cases q : fitN W i = 0
            · rw [if_pos q]; rw [if_neg (by simpa using q)] at K; exact K
            · rw [if_neg q]; rw [if_pos (by simpa using q)] at K; exact K
          )
      · intro hc2
        first
        | (exfalso; omega)
        | (
            (exfalso; omega)
          )
    | succ m ih =>
      intro j i hj hi K
      have ih1 := ih (j + 1) i (by omega) hi K
      have hs1 := hs i
      have c3 := cnt_ge (fitB W i) j
      have b3 := bits_lt (fun p => decide (fitN W p ≠ 0)) i
      have p3 := pow2_le (show i ≤ 9 by omega)
      have p9 : (2 : Int) ^ 9 = 512 := by decide
      have p0 := pow2_pos i
      rw [cnt] at ih1
      refine BX12_tossed_28  ?_ ?_
      · intro hc1
        (exfalso; omega)
      · intro hc2
        refine BX12_tossed_34 (by first | assumption | exact up_at _ _ _ | (rw [up_ne (by omega)]; first | assumption | exact up_at _ _ _ | (rw [up_ne (by omega)]; first | assumption | exact up_at _ _ _ | (rw [up_ne (by omega)]; assumption)))) (by rfl) (by first | assumption | exact up_at _ _ _ | (rw [up_ne (by omega)]; first | assumption | exact up_at _ _ _ | (rw [up_ne (by omega)]; first | assumption | exact up_at _ _ _ | (rw [up_ne (by omega)]; assumption)))) (by rfl) (by rfl) (by first | assumption | exact up_at _ _ _ | (rw [up_ne (by omega)]; first | assumption | exact up_at _ _ _ | (rw [up_ne (by omega)]; first | assumption | exact up_at _ _ _ | (rw [up_ne (by omega)]; assumption)))) ?_
        refine R_X5_allFoundFrom (by first | omega | assumption | (simp only [Ls_len]; omega) | exact Ls_get (by omega) (by omega) | rfl | decide) (by first | omega | assumption | (simp only [Ls_len]; omega) | exact Ls_get (by omega) (by omega) | rfl | decide) (by first | omega | assumption | (simp only [Ls_len]; omega) | exact Ls_get (by omega) (by omega) | rfl | decide) (by first | omega | assumption | (simp only [Ls_len]; omega) | exact Ls_get (by omega) (by omega) | rfl | decide) (by first | omega | assumption | (simp only [Ls_len]; omega) | exact Ls_get (by omega) (by omega) | rfl | decide) (by first | omega | assumption | (simp only [Ls_len]; omega) | exact Ls_get (by omega) (by omega) | rfl | decide) (by first | omega | assumption | (simp only [Ls_len]; omega) | exact Ls_get (by omega) (by omega) | rfl | decide) (by first | omega | assumption | (simp only [Ls_len]; omega) | exact Ls_get (by omega) (by omega) | rfl | decide) (by first | omega | assumption | (simp only [Ls_len]; omega) | exact Ls_get (by omega) (by omega) | rfl | decide) (by first | omega | assumption | (simp only [Ls_len]; omega) | exact Ls_get (by omega) (by omega) | rfl | decide) (by first | omega | assumption | (simp only [Ls_len]; omega) | exact Ls_get (by omega) (by omega) | rfl | decide) (by first | omega | assumption | (simp only [Ls_len]; omega) | exact Ls_get (by omega) (by omega) | rfl | decide) ?_ ?_
        · intro w1
          refine BX12_tossed_55  ?_ ?_
          · intro hc3
            refine BX12_tossed_61 (by first | omega | assumption | (simp only [Ls_len]; omega) | exact Ls_get (by omega) (by omega) | rfl | decide) (by first | omega | assumption | (simp only [Ls_len]; omega) | exact Ls_get (by omega) (by omega) | rfl | decide) ?_
            first
            | (exfalso; omega)
            | (rw [if_neg (show ¬ fitB W i j = true by rw [show fitB W i j = false from w1]; decide), Int.add_zero] at ih1
               exact ih1)
            | (rw [if_pos (show fitB W i j = true from w1), if_neg (by omega), ← Int.add_assoc] at ih1
               by_cases q : cnt (fitB W i) j = 0
               · rw [if_pos q, Int.add_zero, or_bit b3.1 b3.2 (by omega)]; exact ih1
               · rw [if_neg q, bits_or (by omega)]; exact ih1)
          · intro hc4
            exact absurd hc4 (by decide)
        · intro w1
          refine BX12_tossed_55  ?_ ?_
          · intro hc5
            exact absurd hc5 (by decide)
          · intro hc6
            refine BX12_tossed_58 (by first | omega | assumption | (simp only [Ls_len]; omega) | exact Ls_get (by omega) (by omega) | rfl | decide) ?_
            first
            | (exfalso; omega)
            | (rw [if_neg (show ¬ fitB W i j = true by rw [show fitB W i j = false from w1]; decide), Int.add_zero] at ih1
               exact ih1)
            | (rw [if_pos (show fitB W i j = true from w1), if_neg (by omega), ← Int.add_assoc] at ih1
               by_cases q : cnt (fitB W i) j = 0
               · rw [if_pos q, Int.add_zero, or_bit b3.1 b3.2 (by omega)]; exact ih1
               · rw [if_neg q, bits_or (by omega)]; exact ih1)
  have outer : 0 ≤ u → u ≤ 1 → ∀ (m i : Nat) (l5 : Option aV), i + m = 10 → Rn (d + 30) bc bs mX12_tossed 18 [some (vR (some 1)), some (vI u), some (vI (bits (fun p => decide (fitN W p ≠ 0)) i)), some (vI (sumN (fitN W) i)), some (vI i), l5] [] h n Q := by
    intro hw0 hw1 m
    induction m with
    | zero =>
      intro i l5 hi
      have e : i = 10 := by omega
      subst e
      refine BX12_tossed_18  ?_ ?_
      · intro hc1
        refine BX12_tossed_83  ?_ ?_
        · intro hc2
          refine BX12_tossed_91  ?_
          first | (exfalso; omega) | (rw [if_pos (by assumption)] at k1; exact k1) | (rw [if_neg (by assumption), if_pos (by omega)] at k1; exact k1)
        · intro hc3
          refine BX12_tossed_87  ?_
          first | (exfalso; omega) | (rw [if_pos (by assumption)] at k1; exact k1) | (rw [if_neg (by assumption), if_pos (by omega)] at k1; exact k1)
      · intro hc4
        (exfalso; omega)
    | succ m ih =>
      intro i l5 hi
      have in1 := inner 3 0 i (by omega) (by omega) (ih (i + 1) (some (vI 3)) (by omega))
      rw [show cnt (fitB W i) 0 = 0 from rfl, if_pos rfl, Int.add_zero, Int.add_zero] at in1
      refine BX12_tossed_18  ?_ ?_
      · intro hc1
        first
        | (exfalso; omega)
        | (
            (exfalso; omega)
          )
      · intro hc2
        first
        | (exfalso; omega)
        | (
            refine BX12_tossed_25  ?_
            exact in1
          )
  refine BX12_tossed_0  ?_
  refine R_X12_within  ?_ ?_
  · intro w1 w2
    refine BX12_tossed_6  ?_ ?_
    · intro hc1
      refine BX12_tossed_11  ?_
      exact outer (by omega) (by omega) 10 0 none (by omega)
    · intro hc2
      exact absurd hc2 (by decide)
  · intro w3
    refine BX12_tossed_6  ?_ ?_
    · intro hc3
      exact absurd hc3 (by decide)
    · intro hc4
      refine BX12_tossed_9  ?_
      (rw [if_neg (by omega), if_neg (by omega)] at k1; exact k1)
end TOSSED
