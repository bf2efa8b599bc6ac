/-! Relays. R: the best time, how many between, who between at best, who between now. -/
abbrev Rl : Type := Int × Int × (Int → Int) × (Int → Int)
def foldN {α : Type} (g : Nat → α → α) : Nat → α → α
  | 0, R => R
  | j + 1, R => g j (foldN g j R)
def legM (W : Int → Int → Int) (p q tm : Int) : Int := (mtN (W 6) (atP (W 3 3) (W 0) p) (atP (W 3 3) (W 0) q) (W 1 73 + tm) 20 10).1
def arrM (W : Int → Int → Int) (go want p tm : Int) (R : Rl) : Rl := if legM W p go tm = -1 ∨ 60 < tm + legM W p go tm ∨ (R.1 ≠ -1 ∧ R.1 ≤ tm + legM W p go tm) then R else (tm + legM W p go tm, want, R.2.2.2, R.2.2.2)
def goM (W : Int → Int → Int) (go want : Int) : Nat → Int → Int → Int → Int → Rl → Rl
  | 0, p, tm, _, _, R => arrM W go want p tm R
  | k + 1, p, tm, dp, us, R => foldN (fun nx R => if tb us nx = true ∨ legM W p nx tm = -1 ∨ 60 < tm + legM W p nx tm then R else goM W go want k nx (tm + legM W p nx tm) (dp + 1) (or32 us (shl32 1 nx)) (R.1, R.2.1, R.2.2.1, fset R.2.2.2 dp nx)) (W 3 3).toNat R
def relN (W : Int → Int → Int) (fr to : Int) (R : Rl) : Nat → Rl
  | 0 => R
  | c + 1 => goM W to c c fr 0 0 (or32 (shl32 1 fr) (shl32 1 to)) (relN W fr to R c)
def relM (W : Int → Int → Int) (fr to : Int) (be bw : Int → Int) : Rl := relN W fr to (-1, 0, be, bw) ((min 4 (W 3 3 - 2)) + 1).toNat
def aRelay (W : Int → Int → Int) (fr to i : Int) : Int := if 0 ≤ fr ∧ fr < W 3 3 ∧ 0 ≤ to ∧ to < W 3 3 ∧ fr ≠ to then (if (relM W fr to (fun _ => 0) (fun _ => 0)).1 = -1 then -2 else if i = -1 then (relM W fr to (fun _ => 0) (fun _ => 0)).1 else if 0 ≤ i ∧ i ≤ (relM W fr to (fun _ => 0) (fun _ => 0)).2.1 - 1 then (relM W fr to (fun _ => 0) (fun _ => 0)).2.2.1 i else -2) else -2
def aSoonest (W : Int → Int → Int) (fr to u : Int) : Int := if 0 ≤ fr ∧ fr < W 3 3 ∧ 0 ≤ to ∧ to < W 3 3 ∧ 0 ≤ u ∧ u ≤ 1 then (if u = 0 ∨ (mtN (W 6) (atP (W 3 3) (W 0) fr) (atP (W 3 3) (W 0) to) (W 1 73) 60 10).1 = -1 then (mtN (W 6) (atP (W 3 3) (W 0) fr) (atP (W 3 3) (W 0) to) (W 1 73) 60 10).1 else (mtN (W 6) (atP (W 3 3) (W 0) fr) (atP (W 3 3) (W 0) to) (W 1 73) 60 10).2) else -1
theorem legM_in (W : Int → Int → Int) (p q tm : Int) : legM W p q tm = -1 ∨ (1 ≤ legM W p q tm ∧ legM W p q tm ≤ 60) := mtN_in _ _ _ _ _ 10
/-- what a run keeps: the best time is none or 1 .. 60, as many between as are told -/
def okR (R : Rl) (c : Int) : Prop := (R.1 = -1 ∨ (1 ≤ R.1 ∧ R.1 ≤ 60)) ∧ 0 ≤ R.2.1 ∧ R.2.1 ≤ c
theorem arrM_ok {W : Int → Int → Int} {go want p tm : Int} {R : Rl} (h : okR R want) (w0 : 0 ≤ want) (t0 : 0 ≤ tm) : okR (arrM W go want p tm R) want := by
  have := legM_in W p go tm
  unfold arrM
  split
  · exact h
  · refine ⟨.inr ?_, w0, Int.le_refl _⟩
    dsimp only
    omega
theorem foldN_ind {α : Type} {P : α → Prop} {g : Nat → α → α} {n : Nat} (hg : ∀ j R, j < n → P R → P (g j R)) : ∀ k R, k ≤ n → P R → P (foldN g k R) := by
  intro k
  induction k with
  | zero => intro R _ h; exact h
  | succ k ih => intro R hk h; exact hg k _ (by omega) (ih R (by omega) h)
theorem goM_ok {W : Int → Int → Int} {go want : Int} (w0 : 0 ≤ want) : ∀ (k : Nat) (p tm dp us : Int) (R : Rl), 0 ≤ tm → okR R want → okR (goM W go want k p tm dp us R) want := by
  intro k
  induction k with
  | zero => intro p tm dp us R t0 h; exact arrM_ok h w0 t0
  | succ k ih =>
    intro p tm dp us R t0 h
    unfold goM
    refine foldN_ind (P := fun R => okR R want) (n := (W 3 3).toNat) (fun j R hj hR => ?_) _ R (Nat.le_refl _) h
    have := legM_in W p j tm
    split
    · exact hR
    · exact ih _ _ _ _ _ (by omega) hR
section RELAY
variable {d bc bs n : Nat} {h : aH} {Q : aQ} {w0 : Int} {W : Int → Int → Int}
def RoR (h : aH) (w0 go wa : Int) (R : Rl) : Prop := RoS h w0 R.1 R.2.1 go wa R.2.2.2 R.2.2.1
theorem R_X4_arrive {z : Nat} {go wa p tm : Int} {R : Rl} (zs : IsSh h z (W 3 3) (W 0) (W 5) (W 6)) (o : okSh (W 3 3) (W 0) (W 5) (W 6)) (hz : z ≠ 0) (hz2 : z + 4 ≤ 289) (t0 : 0 ≤ W 1 73) (t1 : W 1 73 ≤ 9999) (m0 : 0 ≤ tm) (m1 : tm ≤ 60) (s : RoR h w0 go wa R) (k : ∀ h1 w1, Fr h h1 289 3 → RoR h1 w1 go wa (arrM W go wa p tm R) → Q none h1 n) : Rn (d + 4) bc bs mX4_arrive 0 [some (vR (some 289)), some (vR (some z)), some (vI p), some (vI (W 1 73)), some (vI tm), none] [] h n Q := by
  have s1 := s.1
  have lg := legM_in W p go tm
  have lgd : legM W p go tm = (mtN (W 6) (atP (W 3 3) (W 0) p) (atP (W 3 3) (W 0) go) (W 1 73 + tm) 20 10).1 := rfl
  have kn : (legM W p go tm = -1 ∨ 60 < tm + legM W p go tm ∨ (R.1 ≠ -1 ∧ R.1 ≤ tm + legM W p go tm)) → arrM W go wa p tm R = R := fun e => if_pos e
  have ky : ¬ (legM W p go tm = -1 ∨ 60 < tm + legM W p go tm ∨ (R.1 ≠ -1 ∧ R.1 ≤ tm + legM W p go tm)) → arrM W go wa p tm R = (tm + legM W p go tm, wa, R.2.2.2, R.2.2.2) := fun e => if_neg e
  generalize legM W p go tm = leg at *
  have l1 := Ls_len 4 R.2.2.2
  have l2 := Ls_len 4 R.2.2.1
  refine BX4_arrive_0 (by first | assumption | exact up_at _ _ _ | (rw [up_ne (by omega)]; first | assumption | exact up_at _ _ _ | (rw [up_ne (by omega)]; first | assumption | exact up_at _ _ _ | (rw [up_ne (by omega)]; assumption)))) (by rfl) (by first | omega | assumption | (simp only [Ls_len]; omega) | exact Ls_get (by omega) (by omega) | rfl | decide) ?_
  refine R_X4_meet (by first | omega | assumption | (simp only [Ls_len]; omega) | exact Ls_get (by omega) (by omega) | rfl | decide) (by first | omega | assumption | (simp only [Ls_len]; omega) | exact Ls_get (by omega) (by omega) | rfl | decide) (by first | omega | assumption | (simp only [Ls_len]; omega) | exact Ls_get (by omega) (by omega) | rfl | decide) (by first | omega | assumption | (simp only [Ls_len]; omega) | exact Ls_get (by omega) (by omega) | rfl | decide) (by first | omega | assumption | (simp only [Ls_len]; omega) | exact Ls_get (by omega) (by omega) | rfl | decide) (by first | omega | assumption | (simp only [Ls_len]; omega) | exact Ls_get (by omega) (by omega) | rfl | decide) (by first | omega | assumption | (simp only [Ls_len]; omega) | exact Ls_get (by omega) (by omega) | rfl | decide) (by first | omega | assumption | (simp only [Ls_len]; omega) | exact Ls_get (by omega) (by omega) | rfl | decide) (by first | omega | assumption | (simp only [Ls_len]; omega) | exact Ls_get (by omega) (by omega) | rfl | decide) ?_
  intro h13 w13 r13 s13 y13
  rw [← lgd]
  obtain ⟨u1, u2, u3⟩ := id s13
  refine BX4_arrive_16  ?_ ?_
  · intro hc1
    refine BX4_arrive_34  ?_
    first | (rw [kn (by omega)] at k; exact k _ _ r13 s13) | (exfalso; omega)
  · intro hc2
    refine BX4_arrive_24 (by first | omega | assumption | (simp only [Ls_len]; omega) | exact Ls_get (by omega) (by omega) | rfl | decide) ?_ ?_
    · intro hc3
      refine BX4_arrive_35 (by first | assumption | exact up_at _ _ _ | (rw [up_ne (by omega)]; first | assumption | exact up_at _ _ _ | (rw [up_ne (by omega)]; first | assumption | exact up_at _ _ _ | (rw [up_ne (by omega)]; assumption)))) (by rfl) ?_ ?_
      · intro hc4
        refine BX4_arrive_56 (by first | omega | assumption | (simp only [Ls_len]; omega) | exact Ls_get (by omega) (by omega) | rfl | decide) (by first | assumption | exact up_at _ _ _ | (rw [up_ne (by omega)]; first | assumption | exact up_at _ _ _ | (rw [up_ne (by omega)]; first | assumption | exact up_at _ _ _ | (rw [up_ne (by omega)]; assumption)))) (by simp) ?_
        refine BX4_arrive_65 (by first | assumption | exact up_at _ _ _ | (rw [up_ne (by omega)]; first | assumption | exact up_at _ _ _ | (rw [up_ne (by omega)]; first | assumption | exact up_at _ _ _ | (rw [up_ne (by omega)]; assumption)))) (by rfl) (by simp) ?_
        have u2' : up (up h13 289 (cO 4 [vI w13, vR (some 290), vR (some 291), vI R.2.1, vI (tm + leg), vI go, vI wa])) 289 (cO 4 [vI w13, vR (some 290), vR (some 291), vI wa, vI (tm + leg), vI go, vI wa]) 290 = cI (Ls 4 R.2.2.2) := (up_ne (by decide)).trans ((up_ne (by decide)).trans u2)
        have u3' : up (up h13 289 (cO 4 [vI w13, vR (some 290), vR (some 291), vI R.2.1, vI (tm + leg), vI go, vI wa])) 289 (cO 4 [vI w13, vR (some 290), vR (some 291), vI wa, vI (tm + leg), vI go, vI wa]) 291 = cI (Ls 4 R.2.2.1) := (up_ne (by decide)).trans ((up_ne (by decide)).trans u3)
        refine BX4_arrive_73 (by first | assumption | exact up_at _ _ _ | (rw [up_ne (by omega)]; first | assumption | exact up_at _ _ _ | (rw [up_ne (by omega)]; first | assumption | exact up_at _ _ _ | (rw [up_ne (by omega)]; assumption)))) (by rfl) (by rfl) ?_
        refine R_X12_copyRow (by first | omega | assumption | (simp only [Ls_len]; omega) | exact Ls_get (by omega) (by omega) | rfl | decide) (by first | omega | assumption | (simp only [Ls_len]; omega) | exact Ls_get (by omega) (by omega) | rfl | decide) (by first | omega | assumption | (simp only [Ls_len]; omega) | exact Ls_get (by omega) (by omega) | rfl | decide) (by first | omega | assumption | (simp only [Ls_len]; omega) | exact Ls_get (by omega) (by omega) | rfl | decide) (by first | omega | assumption | (simp only [Ls_len]; omega) | exact Ls_get (by omega) (by omega) | rfl | decide) (by first | omega | assumption | (simp only [Ls_len]; omega) | exact Ls_get (by omega) (by omega) | rfl | decide) ?_
        refine BX4_arrive_84  ?_
        rw [ky (by omega)] at k
        refine k _ w13 (r13.tr ((((Fr.rf h13 289 3).put (by decide) (by decide)).put (by decide) (by decide)).put (by decide) (by decide))) ⟨?_, ?_, ?_⟩
        · rw [up_ne (by decide)]; exact up_at _ _ _
        · rw [up_ne (by decide)]; exact u2'
        · exact up_at _ _ _
      · intro hc5
        refine BX4_arrive_43 (by first | omega | assumption | (simp only [Ls_len]; omega) | exact Ls_get (by omega) (by omega) | rfl | decide) (by first | assumption | exact up_at _ _ _ | (rw [up_ne (by omega)]; first | assumption | exact up_at _ _ _ | (rw [up_ne (by omega)]; first | assumption | exact up_at _ _ _ | (rw [up_ne (by omega)]; assumption)))) (by rfl) ?_ ?_
        · intro hc6
          refine BX4_arrive_56 (by first | omega | assumption | (simp only [Ls_len]; omega) | exact Ls_get (by omega) (by omega) | rfl | decide) (by first | assumption | exact up_at _ _ _ | (rw [up_ne (by omega)]; first | assumption | exact up_at _ _ _ | (rw [up_ne (by omega)]; first | assumption | exact up_at _ _ _ | (rw [up_ne (by omega)]; assumption)))) (by simp) ?_
          refine BX4_arrive_65 (by first | assumption | exact up_at _ _ _ | (rw [up_ne (by omega)]; first | assumption | exact up_at _ _ _ | (rw [up_ne (by omega)]; first | assumption | exact up_at _ _ _ | (rw [up_ne (by omega)]; assumption)))) (by rfl) (by simp) ?_
          have u2' : up (up h13 289 (cO 4 [vI w13, vR (some 290), vR (some 291), vI R.2.1, vI (tm + leg), vI go, vI wa])) 289 (cO 4 [vI w13, vR (some 290), vR (some 291), vI wa, vI (tm + leg), vI go, vI wa]) 290 = cI (Ls 4 R.2.2.2) := (up_ne (by decide)).trans ((up_ne (by decide)).trans u2)
          have u3' : up (up h13 289 (cO 4 [vI w13, vR (some 290), vR (some 291), vI R.2.1, vI (tm + leg), vI go, vI wa])) 289 (cO 4 [vI w13, vR (some 290), vR (some 291), vI wa, vI (tm + leg), vI go, vI wa]) 291 = cI (Ls 4 R.2.2.1) := (up_ne (by decide)).trans ((up_ne (by decide)).trans u3)
          refine BX4_arrive_73 (by first | assumption | exact up_at _ _ _ | (rw [up_ne (by omega)]; first | assumption | exact up_at _ _ _ | (rw [up_ne (by omega)]; first | assumption | exact up_at _ _ _ | (rw [up_ne (by omega)]; assumption)))) (by rfl) (by rfl) ?_
          refine R_X12_copyRow (by first | omega | assumption | (simp only [Ls_len]; omega) | exact Ls_get (by omega) (by omega) | rfl | decide) (by first | omega | assumption | (simp only [Ls_len]; omega) | exact Ls_get (by omega) (by omega) | rfl | decide) (by first | omega | assumption | (simp only [Ls_len]; omega) | exact Ls_get (by omega) (by omega) | rfl | decide) (by first | omega | assumption | (simp only [Ls_len]; omega) | exact Ls_get (by omega) (by omega) | rfl | decide) (by first | omega | assumption | (simp only [Ls_len]; omega) | exact Ls_get (by omega) (by omega) | rfl | decide) (by first | omega | assumption | (simp only [Ls_len]; omega) | exact Ls_get (by omega) (by omega) | rfl | decide) ?_
          refine BX4_arrive_84  ?_
          rw [ky (by omega)] at k
          refine k _ w13 (r13.tr ((((Fr.rf h13 289 3).put (by decide) (by decide)).put (by decide) (by decide)).put (by decide) (by decide))) ⟨?_, ?_, ?_⟩
          · rw [up_ne (by decide)]; exact up_at _ _ _
          · rw [up_ne (by decide)]; exact u2'
          · exact up_at _ _ _
        · intro hc7
          refine BX4_arrive_55  ?_
          first | (rw [kn (by omega)] at k; exact k _ _ r13 s13) | (exfalso; omega)
    · intro hc8
      refine BX4_arrive_34  ?_
      first | (rw [kn (by omega)] at k; exact k _ _ r13 s13) | (exfalso; omega)
end RELAY
