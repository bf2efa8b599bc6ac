def SimR (dp : Int) (R S : Rl) : Prop := R.1 = S.1 ∧ R.2.1 = S.2.1 ∧ (∀ j, 0 ≤ j → j < R.2.1 → R.2.2.1 j = S.2.2.1 j) ∧ ∀ j, 0 ≤ j → j < dp → R.2.2.2 j = S.2.2.2 j
theorem arrM_sim {W : Int → Int → Int} {go want p tm : Int} {R S : Rl} (h : SimR want R S) : SimR want (arrM W go want p tm R) (arrM W go want p tm S) := by
  obtain ⟨h1, h2, h3, h4⟩ := h
  unfold arrM
  rw [h1]
  split
  · exact ⟨h1, h2, h3, h4⟩
  · exact ⟨rfl, rfl, h4, h4⟩
theorem foldN_sim {α : Type} {P : α → α → Prop} {g : Nat → α → α} (hg : ∀ j R S, P R S → P (g j R) (g j S)) : ∀ k R S, P R S → P (foldN g k R) (foldN g k S) := by
  intro k
  induction k with
  | zero => intro R S h; exact h
  | succ k ih => intro R S h; exact hg k _ _ (ih R S h)
theorem goM_sim {W : Int → Int → Int} {go want : Int} : ∀ (k : Nat) (p tm dp us : Int) (R S : Rl), dp + k = want → 0 ≤ dp → SimR dp R S → SimR dp (goM W go want k p tm dp us R) (goM W go want k p tm dp us S) := by
  intro k
  induction k with
  | zero =>
    intro p tm dp us R S hd d0 h
    have e : dp = want := by omega
    subst e
    exact arrM_sim h
  | succ k ih =>
    intro p tm dp us R S hd d0 h
    unfold goM
    refine foldN_sim (P := SimR dp) (fun j R S h => ?_) _ R S h
    split
    · exact h
    · obtain ⟨h1, h2, h3, h4⟩ := h
      have z := ih j (tm + legM W p j tm) (dp + 1) (or32 us (shl32 1 j)) (R.1, R.2.1, R.2.2.1, fset R.2.2.2 dp j) (S.1, S.2.1, S.2.2.1, fset S.2.2.2 dp j) (by omega) (by omega) ⟨h1, h2, h3, fun i i0 i1 => by
        dsimp only
        by_cases q : i = dp
        · subst q; rw [fset_at, fset_at]
        · rw [fset_ne q, fset_ne q]; exact h4 i i0 (by omega)⟩
      exact ⟨z.1, z.2.1, z.2.2.1, fun i i0 i1 => z.2.2.2 i i0 (by omega)⟩
theorem relN_sim {W : Int → Int → Int} {fr to : Int} {R S : Rl} (h : SimR 0 R S) : ∀ c, SimR 0 (relN W fr to R c) (relN W fr to S c) := by
  intro c
  induction c with
  | zero => exact h
  | succ c ih => exact goM_sim c _ _ _ _ _ _ (by omega) (by decide) ih
theorem relN_ok {W : Int → Int → Int} {fr to : Int} {R : Rl} (h : okR R 0) : ∀ c : Nat, okR (relN W fr to R c) c := by
  intro c
  induction c with
  | zero => exact h
  | succ c ih =>
    have z := goM_ok (W := W) (go := to) (want := c) (by omega) c fr 0 0 (or32 (shl32 1 fr) (shl32 1 to)) (relN W fr to R c) (by decide) ih
    unfold relN
    exact ⟨z.1, z.2.1, by have := z.2.2; omega⟩
theorem relN_ok4 {W : Int → Int → Int} {fr to : Int} {R : Rl} (h : okR R 0) {k : Nat} (hk : k ≤ 5) : okR (relN W fr to R k) 4 := by
  cases k with
  | zero => exact ⟨h.1, h.2.1, by have := h.2.2; show R.2.1 ≤ 4; omega⟩
  | succ c =>
    have ih := relN_ok (W := W) (fr := fr) (to := to) h c
    have z := goM_ok (W := W) (go := to) (want := c) (by omega) c fr 0 0 (or32 (shl32 1 fr) (shl32 1 to)) (relN W fr to R c) (by decide) ih
    unfold relN
    exact ⟨z.1, z.2.1, by have := z.2.2; omega⟩
section RELAY3
variable {d bc bs n : Nat} {g h : aH} {Q : aQ} {w0 : Int} {W V : Int → Int → Int} {X : Int → Tx} {F : Int → Int}
theorem R_X4_relayTime {z : Nat} {fr to bt bcn go wa : Int} {bw be : Int → Int} (zs : IsSh h z (W 3 3) (W 0) (W 5) (W 6)) (o : okSh (W 3 3) (W 0) (W 5) (W 6)) (hz : z ≠ 0) (hz2 : z + 4 ≤ 289) (t0 : 0 ≤ W 1 73) (t1 : W 1 73 ≤ 9999) (f0 : 0 ≤ fr) (f1 : fr < 6) (g0 : 0 ≤ to) (g1 : to < 6) (hn : 2 ≤ W 3 3) (s : RoS h w0 bt bcn go wa bw be) (k : ∀ h1 w1 wa1, Fr h h1 289 3 → RoR h1 w1 to wa1 (relM W fr to be bw) → Q (some (vI (relM W fr to be bw).1)) h1 n) : Rn (d + 15) bc bs mX4_relayTime 0 [some (vR (some 289)), some (vR (some z)), some (vI fr), some (vI to), some (vI (W 1 73)), none, none] [] h n Q := by
  have o1 := o.1
  have e6 : (2 : Int) ^ 6 = 64 := by decide
  have sa := shl1_rg (i := fr) (k := 6) (by decide) (by omega) (by omega)
  have sb := shl1_rg (i := to) (k := 6) (by decide) (by omega) (by omega)
  have og := or32_rg (k := 6) (by decide) sa.1 sa.2 sb.1 sb.2
  rw [e6] at og
  have loop : ∀ (m c : Nat) (h1 : aH) (w1 wa1 : Int), (c : Int) + m = min 4 (W 3 3 - 2) + 1 → Fr h h1 289 3 → RoR h1 w1 to wa1 (relN W fr to (-1, 0, be, bw) c) → Rn (d + 15) bc bs mX4_relayTime 30 [some (vR (some 289)), some (vR (some z)), some (vI fr), some (vI to), some (vI (W 1 73)), some (vI (min 4 (W 3 3 - 2))), some (vI c)] [] h1 n Q := by
    intro m
    induction m with
    | zero =>
      intro c h1 w1 wa1 hc f s
      have s1 := s.1
      have e : relN W fr to (-1, 0, be, bw) c = relM W fr to be bw := by unfold relM; congr 1; omega
      rw [e] at s s1
      refine BX4_relayTime_30  ?_ ?_
      · intro hc1
        first
        | (exfalso; omega)
        | (
            refine BX4_relayTime_66 (by first | assumption | exact up_at _ _ _ | (rw [up_ne (by omega)]; first | assumption | exact up_at _ _ _ | (rw [up_ne (by omega)]; first | assumption | exact up_at _ _ _ | (rw [up_ne (by omega)]; assumption)))) (by rfl) ?_
            exact k _ _ _ f s
          )
      · intro hc2
        first
        | (exfalso; omega)
        | (
            (exfalso; omega)
          )
    | succ m ih =>
      intro c h1 w1 wa1 hc f s
      have zs := zs.fr f (by omega)
      obtain ⟨s1, s2, s3⟩ := id s
      have ih1 := ih (c + 1)
      rw [relN] at ih1
      refine BX4_relayTime_30  ?_ ?_
      · intro hc1
        first
        | (exfalso; omega)
        | (
            (exfalso; omega)
          )
      · intro hc2
        first
        | (exfalso; omega)
        | (
            refine BX4_relayTime_37 (by first | assumption | exact up_at _ _ _ | (rw [up_ne (by omega)]; first | assumption | exact up_at _ _ _ | (rw [up_ne (by omega)]; first | assumption | exact up_at _ _ _ | (rw [up_ne (by omega)]; assumption)))) (by simp) ?_
            have f9 := Fr.one h1 289 (cO 4 [vI w1, vR (some 290), vR (some 291), vI (relN W fr to (-1, 0, be, bw) c).2.1, vI (relN W fr to (-1, 0, be, bw) c).1, vI to, vI c])
            have s9 : RoR (up h1 289 (cO 4 [vI w1, vR (some 290), vR (some 291), vI (relN W fr to (-1, 0, be, bw) c).2.1, vI (relN W fr to (-1, 0, be, bw) c).1, vI to, vI c])) w1 to c (relN W fr to (-1, 0, be, bw) c) := ⟨up_at _ _ _, (up_ne (by decide)).trans s2, (up_ne (by decide)).trans s3⟩
            refine BX4_relayTime_43 s9.1 ?_
            refine Rn.deep (d := 0 + 2 * c + 6) (by omega) (R_X4_goOn (d := 0) o hz hz2 t0 t1 (by omega) c (zs.fr f9 (by omega)) (by omega) (by decide) (by decide) (by decide) og.1 og.2 s9 fun h2 w2 f2 s2 => ?_)
            refine BX4_relayTime_60 (by omega) ?_
            exact ih1 _ _ _ (by omega) ((f.tr (f9.wd (by decide) (by decide))).tr f2) s2
          )
  obtain ⟨s1, s2, s3⟩ := s
  have z1 := zs.1
  refine BX4_relayTime_0 (by first | assumption | exact up_at _ _ _ | (rw [up_ne (by omega)]; first | assumption | exact up_at _ _ _ | (rw [up_ne (by omega)]; first | assumption | exact up_at _ _ _ | (rw [up_ne (by omega)]; assumption)))) (by simp) ?_
  refine BX4_relayTime_5 (by first | assumption | exact up_at _ _ _ | (rw [up_ne (by omega)]; first | assumption | exact up_at _ _ _ | (rw [up_ne (by omega)]; first | assumption | exact up_at _ _ _ | (rw [up_ne (by omega)]; assumption)))) (by simp) ?_
  refine BX4_relayTime_10 (by first | assumption | exact up_at _ _ _ | (rw [up_ne (by omega)]; first | assumption | exact up_at _ _ _ | (rw [up_ne (by omega)]; first | assumption | exact up_at _ _ _ | (rw [up_ne (by omega)]; assumption)))) (by simp) ?_
  rw [up_up, up_up]
  have f9 := Fr.one h 289 (cO 4 [vI w0, vR (some 290), vR (some 291), vI 0, vI (-1), vI to, vI wa])
  have z1 := (zs.fr f9 (by omega)).1
  refine BX4_relayTime_15 (by first | assumption | exact up_at _ _ _ | (rw [up_ne (by omega)]; first | assumption | exact up_at _ _ _ | (rw [up_ne (by omega)]; first | assumption | exact up_at _ _ _ | (rw [up_ne (by omega)]; assumption)))) (by rfl) (by first | omega | assumption | (simp only [Ls_len]; omega) | exact Ls_get (by omega) (by omega) | rfl | decide) ?_
  refine R_J9_min  ?_
  refine BX4_relayTime_25  ?_
  exact loop (min 4 (W 3 3 - 2) + 1).toNat 0 _ w0 wa (by omega) (Fr.one h 289 _ |>.wd (by decide) (by decide)) ⟨up_at _ _ _, (up_ne (by decide)).trans s2, (up_ne (by decide)).trans s3⟩
theorem IsPo.roS {h : aH} (s : IsRo h) : ∃ w0 bt bc go wa bw be, RoS h w0 bt bc go wa bw be := by
  obtain ⟨n1, n2, n3, n4, n5, f1, f2, s1, s2, s3⟩ := s
  exact ⟨n1, n3, n2, n4, n5, f1, f2, s1, s2, s3⟩
theorem RoS.is {w0 bt bcn go wa : Int} {bw be : Int → Int} (s : RoS h w0 bt bcn go wa bw be) : IsRo h := ⟨_, _, _, _, _, _, _, s⟩
theorem R_X4_bestBetween {w0 bt bcn go wa i : Int} {bw be : Int → Int} (s : RoS h w0 bt bcn go wa bw be) (i0 : 0 ≤ i) (i1 : i < 4) (k : Q (some (vI (be i))) h n) : Rn (d + 1) bc bs mX4_bestBetween 0 [some (vR (some 289)), some (vI i)] [] h n Q := by
  obtain ⟨s1, s2, s3⟩ := s
  have l1 := Ls_len 4 be
  refine BX4_bestBetween_0 (by first | assumption | exact up_at _ _ _ | (rw [up_ne (by omega)]; first | assumption | exact up_at _ _ _ | (rw [up_ne (by omega)]; first | assumption | exact up_at _ _ _ | (rw [up_ne (by omega)]; assumption)))) (by rfl) ?_
  refine R_X12_cell (by first | omega | assumption | (simp only [Ls_len]; omega) | exact Ls_get (by omega) (by omega) | rfl | decide) (by first | omega | assumption | (simp only [Ls_len]; omega) | exact Ls_get (by omega) (by omega) | rfl | decide) (by first | omega | assumption | (simp only [Ls_len]; omega) | exact Ls_get (by omega) (by omega) | rfl | decide) (by first | omega | assumption | (simp only [Ls_len]; omega) | exact Ls_get (by omega) (by omega) | rfl | decide) (by first | omega | assumption | (simp only [Ls_len]; omega) | exact Ls_get (by omega) (by omega) | rfl | decide) ?_
  refine BX4_bestBetween_8  ?_
  exact k
theorem P_soonest {fr to u : Int} (s : IsPo g h W V X F) (ok : okW W) (k : ∀ h1, IsPo g h1 W V X F → Q (some (vI (aSoonest W fr to u))) h1 n) : Rn (d + 30) bc bs mX12_soonest 0 [some (vR (some 1)), some (vI fr), some (vI to), some (vI u), none] [] h n Q := by
  obtain ⟨fp, p1, w, v, tp, gr, ⟨lx, la⟩, ro, ri, Gx, gl⟩ := id s; have w1 := w.1; have sh := w.2.1; have se := w.2.2.1; obtain ⟨Ts, ps, st, ste⟩ := w.2.2.2.1; have sa := w.2.2.2.2.1; have sh1 := sh.1; have se1 := se.1; have st1 := st.1; have sa1 := sa.1; obtain ⟨tl, la1⟩ := la.ob; have gl1 := gl.1; have bk0 := se.2.2; have bk1 := bk0.1
  obtain ⟨o1, o2, o3, o4, o5⟩ := id ok; have o11 := o1.1; have o21 := o2.1; have o51 := o5.1; have o52 := o5.2.1; have o53 := o5.2.2.1; have o54 := o5.2.2.2.1
  obtain ⟨r1, r2, r3, r4, r5, r6, r7, rs⟩ := IsPo.roS ro
  have rs1 := rs.1
  unfold aSoonest at k
  refine BX12_soonest_0 (by first | assumption | exact up_at _ _ _ | (rw [up_ne (by omega)]; first | assumption | exact up_at _ _ _ | (rw [up_ne (by omega)]; first | assumption | exact up_at _ _ _ | (rw [up_ne (by omega)]; assumption)))) (by rfl) (by first | assumption | exact up_at _ _ _ | (rw [up_ne (by omega)]; first | assumption | exact up_at _ _ _ | (rw [up_ne (by omega)]; first | assumption | exact up_at _ _ _ | (rw [up_ne (by omega)]; assumption)))) (by rfl) (by first | assumption | exact up_at _ _ _ | (rw [up_ne (by omega)]; first | assumption | exact up_at _ _ _ | (rw [up_ne (by omega)]; first | assumption | exact up_at _ _ _ | (rw [up_ne (by omega)]; assumption)))) ?_
  refine R_X7_hasPerson (by first | omega | assumption | (simp only [Ls_len]; omega) | exact Ls_get (by omega) (by omega) | rfl | decide) ?_ ?_
  · intro w1 w2
    refine BX12_soonest_11  ?_ ?_
    · intro hc1
      exact absurd hc1 (by decide)
    · intro hc2
      refine BX12_soonest_14 (by first | assumption | exact up_at _ _ _ | (rw [up_ne (by omega)]; first | assumption | exact up_at _ _ _ | (rw [up_ne (by omega)]; first | assumption | exact up_at _ _ _ | (rw [up_ne (by omega)]; assumption)))) (by rfl) (by first | assumption | exact up_at _ _ _ | (rw [up_ne (by omega)]; first | assumption | exact up_at _ _ _ | (rw [up_ne (by omega)]; first | assumption | exact up_at _ _ _ | (rw [up_ne (by omega)]; assumption)))) (by rfl) (by first | assumption | exact up_at _ _ _ | (rw [up_ne (by omega)]; first | assumption | exact up_at _ _ _ | (rw [up_ne (by omega)]; first | assumption | exact up_at _ _ _ | (rw [up_ne (by omega)]; assumption)))) ?_
      refine R_X7_hasPerson (by first | omega | assumption | (simp only [Ls_len]; omega) | exact Ls_get (by omega) (by omega) | rfl | decide) ?_ ?_
      · intro w1 w2
        refine BX12_soonest_25  ?_ ?_
        · intro hc3
          exact absurd hc3 (by decide)
        · intro hc4
          refine BX12_soonest_28  ?_
          refine R_X12_within  ?_ ?_
          · intro w1 w2
            refine BX12_soonest_34  ?_ ?_
            · intro hc5
              refine BX12_soonest_39 (by first | assumption | exact up_at _ _ _ | (rw [up_ne (by omega)]; first | assumption | exact up_at _ _ _ | (rw [up_ne (by omega)]; first | assumption | exact up_at _ _ _ | (rw [up_ne (by omega)]; assumption)))) (by rfl) (by rfl) (by first | assumption | exact up_at _ _ _ | (rw [up_ne (by omega)]; first | assumption | exact up_at _ _ _ | (rw [up_ne (by omega)]; first | assumption | exact up_at _ _ _ | (rw [up_ne (by omega)]; assumption)))) (by rfl) (by rfl) (by first | assumption | exact up_at _ _ _ | (rw [up_ne (by omega)]; first | assumption | exact up_at _ _ _ | (rw [up_ne (by omega)]; first | assumption | exact up_at _ _ _ | (rw [up_ne (by omega)]; assumption)))) (by rfl) (by first | assumption | exact up_at _ _ _ | (rw [up_ne (by omega)]; first | assumption | exact up_at _ _ _ | (rw [up_ne (by omega)]; first | assumption | exact up_at _ _ _ | (rw [up_ne (by omega)]; assumption)))) ?_
              refine R_X4_meet (by first | omega | assumption | (simp only [Ls_len]; omega) | exact Ls_get (by omega) (by omega) | rfl | decide) (by first | omega | assumption | (simp only [Ls_len]; omega) | exact Ls_get (by omega) (by omega) | rfl | decide) (by first | omega | assumption | (simp only [Ls_len]; omega) | exact Ls_get (by omega) (by omega) | rfl | decide) (by first | omega | assumption | (simp only [Ls_len]; omega) | exact Ls_get (by omega) (by omega) | rfl | decide) (by first | omega | assumption | (simp only [Ls_len]; omega) | exact Ls_get (by omega) (by omega) | rfl | decide) (by first | omega | assumption | (simp only [Ls_len]; omega) | exact Ls_get (by omega) (by omega) | rfl | decide) (by first | omega | assumption | (simp only [Ls_len]; omega) | exact Ls_get (by omega) (by omega) | rfl | decide) (by first | omega | assumption | (simp only [Ls_len]; omega) | exact Ls_get (by omega) (by omega) | rfl | decide) (by first | omega | assumption | (simp only [Ls_len]; omega) | exact Ls_get (by omega) (by omega) | rfl | decide) ?_
              intro h64 w64 r64 s64 y64
              have s := s.rou r64 (RoS.is s64)
              obtain ⟨fp, p1, w, v, tp, gr, ⟨lx, la⟩, ro, ri, Gx, gl⟩ := id s; have w1 := w.1; have sh := w.2.1; have se := w.2.2.1; obtain ⟨Ts, ps, st, ste⟩ := w.2.2.2.1; have sa := w.2.2.2.2.1; have sh1 := sh.1; have se1 := se.1; have st1 := st.1; have sa1 := sa.1; obtain ⟨tl, la1⟩ := la.ob; have gl1 := gl.1; have bk0 := se.2.2; have bk1 := bk0.1
              have rs1 := s64.1
              refine BX12_soonest_67  ?_ ?_
              · intro hc6
                refine BX12_soonest_79  ?_
                first | (rw [if_neg (by omega)] at k; exact k _ s) | (rw [if_pos (by omega), if_pos (by omega)] at k; exact k _ s) | (exfalso; omega)
              · intro hc7
                refine BX12_soonest_73  ?_ ?_
                · intro hc8
                  refine BX12_soonest_84 (by first | assumption | exact up_at _ _ _ | (rw [up_ne (by omega)]; first | assumption | exact up_at _ _ _ | (rw [up_ne (by omega)]; first | assumption | exact up_at _ _ _ | (rw [up_ne (by omega)]; assumption)))) (by rfl) (by first | assumption | exact up_at _ _ _ | (rw [up_ne (by omega)]; first | assumption | exact up_at _ _ _ | (rw [up_ne (by omega)]; first | assumption | exact up_at _ _ _ | (rw [up_ne (by omega)]; assumption)))) (by rfl) ?_
                  rw [if_pos (by omega), if_neg (by omega), ← y64 (by omega)] at k
                  exact k _ s
                · intro hc9
                  refine BX12_soonest_79  ?_
                  first | (rw [if_neg (by omega)] at k; exact k _ s) | (rw [if_pos (by omega), if_pos (by omega)] at k; exact k _ s) | (exfalso; omega)
            · intro hc10
              exact absurd hc10 (by decide)
          · intro w3
            refine BX12_soonest_34  ?_ ?_
            · intro hc11
              exact absurd hc11 (by decide)
            · intro hc12
              refine BX12_soonest_37  ?_
              first | (rw [if_neg (by omega)] at k; exact k _ s) | (rw [if_pos (by omega), if_pos (by omega)] at k; exact k _ s) | (exfalso; omega)
      · intro w3
        refine BX12_soonest_25  ?_ ?_
        · intro hc13
          refine BX12_soonest_37  ?_
          first | (rw [if_neg (by omega)] at k; exact k _ s) | (rw [if_pos (by omega), if_pos (by omega)] at k; exact k _ s) | (exfalso; omega)
        · intro hc14
          exact absurd hc14 (by decide)
  · intro w3
    refine BX12_soonest_11  ?_ ?_
    · intro hc15
      refine BX12_soonest_37  ?_
      first | (rw [if_neg (by omega)] at k; exact k _ s) | (rw [if_pos (by omega), if_pos (by omega)] at k; exact k _ s) | (exfalso; omega)
    · intro hc16
      exact absurd hc16 (by decide)
theorem P_relay {fr to i : Int} (s : IsPo g h W V X F) (ok : okW W) (k : ∀ h1, IsPo g h1 W V X F → Q (some (vI (aRelay W fr to i))) h1 n) : Rn (d + 30) bc bs mX12_relay 0 [some (vR (some 1)), some (vI fr), some (vI to), some (vI i), none] [] h n Q := by
  obtain ⟨fp, p1, w, v, tp, gr, ⟨lx, la⟩, ro, ri, Gx, gl⟩ := id s; have w1 := w.1; have sh := w.2.1; have se := w.2.2.1; obtain ⟨Ts, ps, st, ste⟩ := w.2.2.2.1; have sa := w.2.2.2.2.1; have sh1 := sh.1; have se1 := se.1; have st1 := st.1; have sa1 := sa.1; obtain ⟨tl, la1⟩ := la.ob; have gl1 := gl.1; have bk0 := se.2.2; have bk1 := bk0.1
  obtain ⟨o1, o2, o3, o4, o5⟩ := id ok; have o11 := o1.1; have o21 := o2.1; have o51 := o5.1; have o52 := o5.2.1; have o53 := o5.2.2.1; have o54 := o5.2.2.2.1
  obtain ⟨r1, r2, r3, r4, r5, r6, r7, rs⟩ := IsPo.roS ro
  have rs1 := rs.1
  have sm := relN_sim (W := W) (fr := fr) (to := to) (R := (-1, 0, r7, r6)) (S := (-1, 0, fun _ => 0, fun _ => 0)) ⟨rfl, rfl, fun j j0 j1 => absurd j1 (by dsimp only; omega), fun j j0 j1 => absurd j1 (by omega)⟩ (min 4 (W 3 3 - 2) + 1).toNat
  have kk := relN_ok4 (W := W) (fr := fr) (to := to) (R := (-1, 0, r7, r6)) ⟨.inl rfl, z00, z00⟩ (k := (min 4 (W 3 3 - 2) + 1).toNat) (by omega)
  have eS : relN W fr to (-1, 0, fun _ => 0, fun _ => 0) (min 4 (W 3 3 - 2) + 1).toNat = relM W fr to (fun _ => 0) (fun _ => 0) := rfl
  have eR : relN W fr to (-1, 0, r7, r6) (min 4 (W 3 3 - 2) + 1).toNat = relM W fr to r7 r6 := rfl
  rw [eS, eR] at sm
  rw [eR] at kk
  unfold aRelay at k
  generalize relM W fr to (fun _ => 0) (fun _ => 0) = S at *
  obtain ⟨m1, m2, m3, m4⟩ := sm
  obtain ⟨k1, k2, k3⟩ := kk
  rw [← m1, ← m2] at k
  refine BX12_relay_0 (by first | assumption | exact up_at _ _ _ | (rw [up_ne (by omega)]; first | assumption | exact up_at _ _ _ | (rw [up_ne (by omega)]; first | assumption | exact up_at _ _ _ | (rw [up_ne (by omega)]; assumption)))) (by rfl) (by first | assumption | exact up_at _ _ _ | (rw [up_ne (by omega)]; first | assumption | exact up_at _ _ _ | (rw [up_ne (by omega)]; first | assumption | exact up_at _ _ _ | (rw [up_ne (by omega)]; assumption)))) (by rfl) (by first | assumption | exact up_at _ _ _ | (rw [up_ne (by omega)]; first | assumption | exact up_at _ _ _ | (rw [up_ne (by omega)]; first | assumption | exact up_at _ _ _ | (rw [up_ne (by omega)]; assumption)))) ?_
  refine R_X7_hasPerson (by first | omega | assumption | (simp only [Ls_len]; omega) | exact Ls_get (by omega) (by omega) | rfl | decide) ?_ ?_
  · intro w1 w2
    refine BX12_relay_11  ?_ ?_
    · intro hc1
      exact absurd hc1 (by decide)
    · intro hc2
      refine BX12_relay_14 (by first | assumption | exact up_at _ _ _ | (rw [up_ne (by omega)]; first | assumption | exact up_at _ _ _ | (rw [up_ne (by omega)]; first | assumption | exact up_at _ _ _ | (rw [up_ne (by omega)]; assumption)))) (by rfl) (by first | assumption | exact up_at _ _ _ | (rw [up_ne (by omega)]; first | assumption | exact up_at _ _ _ | (rw [up_ne (by omega)]; first | assumption | exact up_at _ _ _ | (rw [up_ne (by omega)]; assumption)))) (by rfl) (by first | assumption | exact up_at _ _ _ | (rw [up_ne (by omega)]; first | assumption | exact up_at _ _ _ | (rw [up_ne (by omega)]; first | assumption | exact up_at _ _ _ | (rw [up_ne (by omega)]; assumption)))) ?_
      refine R_X7_hasPerson (by first | omega | assumption | (simp only [Ls_len]; omega) | exact Ls_get (by omega) (by omega) | rfl | decide) ?_ ?_
      · intro w1 w2
        refine BX12_relay_25  ?_ ?_
        · intro hc3
          exact absurd hc3 (by decide)
        · intro hc4
          refine BX12_relay_28  ?_ ?_
          · intro hc5
            refine BX12_relay_36 (by first | assumption | exact up_at _ _ _ | (rw [up_ne (by omega)]; first | assumption | exact up_at _ _ _ | (rw [up_ne (by omega)]; first | assumption | exact up_at _ _ _ | (rw [up_ne (by omega)]; assumption)))) (by rfl) (by rfl) (by first | assumption | exact up_at _ _ _ | (rw [up_ne (by omega)]; first | assumption | exact up_at _ _ _ | (rw [up_ne (by omega)]; first | assumption | exact up_at _ _ _ | (rw [up_ne (by omega)]; assumption)))) (by rfl) (by rfl) (by first | assumption | exact up_at _ _ _ | (rw [up_ne (by omega)]; first | assumption | exact up_at _ _ _ | (rw [up_ne (by omega)]; first | assumption | exact up_at _ _ _ | (rw [up_ne (by omega)]; assumption)))) (by rfl) (by first | assumption | exact up_at _ _ _ | (rw [up_ne (by omega)]; first | assumption | exact up_at _ _ _ | (rw [up_ne (by omega)]; first | assumption | exact up_at _ _ _ | (rw [up_ne (by omega)]; assumption)))) ?_
            refine R_X4_relayTime (by first | omega | assumption | (simp only [Ls_len]; omega) | exact Ls_get (by omega) (by omega) | rfl | decide) (by first | omega | assumption | (simp only [Ls_len]; omega) | exact Ls_get (by omega) (by omega) | rfl | decide) (by first | omega | assumption | (simp only [Ls_len]; omega) | exact Ls_get (by omega) (by omega) | rfl | decide) (by first | omega | assumption | (simp only [Ls_len]; omega) | exact Ls_get (by omega) (by omega) | rfl | decide) (by first | omega | assumption | (simp only [Ls_len]; omega) | exact Ls_get (by omega) (by omega) | rfl | decide) (by first | omega | assumption | (simp only [Ls_len]; omega) | exact Ls_get (by omega) (by omega) | rfl | decide) (by first | omega | assumption | (simp only [Ls_len]; omega) | exact Ls_get (by omega) (by omega) | rfl | decide) (by first | omega | assumption | (simp only [Ls_len]; omega) | exact Ls_get (by omega) (by omega) | rfl | decide) (by first | omega | assumption | (simp only [Ls_len]; omega) | exact Ls_get (by omega) (by omega) | rfl | decide) (by first | omega | assumption | (simp only [Ls_len]; omega) | exact Ls_get (by omega) (by omega) | rfl | decide) (by first | omega | assumption | (simp only [Ls_len]; omega) | exact Ls_get (by omega) (by omega) | rfl | decide) (by first | omega | assumption | (simp only [Ls_len]; omega) | exact Ls_get (by omega) (by omega) | rfl | decide) ?_
            intro h59 w59 wa59 r59 s59
            have s := s.rou r59 (RoS.is s59)
            obtain ⟨fp, p1, w, v, tp, gr, ⟨lx, la⟩, ro, ri, Gx, gl⟩ := id s; have w1 := w.1; have sh := w.2.1; have se := w.2.2.1; obtain ⟨Ts, ps, st, ste⟩ := w.2.2.2.1; have sa := w.2.2.2.2.1; have sh1 := sh.1; have se1 := se.1; have st1 := st.1; have sa1 := sa.1; obtain ⟨tl, la1⟩ := la.ob; have gl1 := gl.1; have bk0 := se.2.2; have bk1 := bk0.1
            have rs1 := s59.1
            refine BX12_relay_62  ?_ ?_
            · intro hc6
              refine BX12_relay_73  ?_ ?_
              · intro hc7
                refine BX12_relay_81 (by first | assumption | exact up_at _ _ _ | (rw [up_ne (by omega)]; first | assumption | exact up_at _ _ _ | (rw [up_ne (by omega)]; first | assumption | exact up_at _ _ _ | (rw [up_ne (by omega)]; assumption)))) (by rfl) (by first | assumption | exact up_at _ _ _ | (rw [up_ne (by omega)]; first | assumption | exact up_at _ _ _ | (rw [up_ne (by omega)]; first | assumption | exact up_at _ _ _ | (rw [up_ne (by omega)]; assumption)))) (by rfl) (by first | omega | assumption | (simp only [Ls_len]; omega) | exact Ls_get (by omega) (by omega) | rfl | decide) ?_
                refine R_X12_within  ?_ ?_
                · intro w1 w2
                  refine BX12_relay_95  ?_ ?_
                  · intro hc8
                    exact absurd hc8 (by decide)
                  · intro hc9
                    refine BX12_relay_98 (by first | assumption | exact up_at _ _ _ | (rw [up_ne (by omega)]; first | assumption | exact up_at _ _ _ | (rw [up_ne (by omega)]; first | assumption | exact up_at _ _ _ | (rw [up_ne (by omega)]; assumption)))) (by rfl) (by first | assumption | exact up_at _ _ _ | (rw [up_ne (by omega)]; first | assumption | exact up_at _ _ _ | (rw [up_ne (by omega)]; first | assumption | exact up_at _ _ _ | (rw [up_ne (by omega)]; assumption)))) ?_
                    refine R_X4_bestBetween (by first | omega | assumption | (simp only [Ls_len]; omega) | exact Ls_get (by omega) (by omega) | rfl | decide) (by first | omega | assumption | (simp only [Ls_len]; omega) | exact Ls_get (by omega) (by omega) | rfl | decide) (by first | omega | assumption | (simp only [Ls_len]; omega) | exact Ls_get (by omega) (by omega) | rfl | decide) ?_
                    refine BX12_relay_106  ?_
                    rw [if_pos (by omega), if_neg (by omega), if_neg (by omega), if_pos (by omega), ← m3 i (by omega) (by omega)] at k
                    exact k _ s
                · intro w3
                  refine BX12_relay_95  ?_ ?_
                  · intro hc10
                    refine BX12_relay_109  ?_
                    first | (rw [if_neg (by omega)] at k; exact k _ s) | (rw [if_pos (by omega), if_pos (by omega)] at k; exact k _ s) | (rw [if_pos (by omega), if_neg (by omega), if_pos (by omega)] at k; exact k _ s) | (rw [if_pos (by omega), if_neg (by omega), if_neg (by omega), if_neg (by omega)] at k; exact k _ s) | (exfalso; omega)
                  · intro hc11
                    exact absurd hc11 (by decide)
              · intro hc12
                refine BX12_relay_78  ?_
                first | (rw [if_neg (by omega)] at k; exact k _ s) | (rw [if_pos (by omega), if_pos (by omega)] at k; exact k _ s) | (rw [if_pos (by omega), if_neg (by omega), if_pos (by omega)] at k; exact k _ s) | (rw [if_pos (by omega), if_neg (by omega), if_neg (by omega), if_neg (by omega)] at k; exact k _ s) | (exfalso; omega)
            · intro hc13
              refine BX12_relay_70  ?_
              first | (rw [if_neg (by omega)] at k; exact k _ s) | (rw [if_pos (by omega), if_pos (by omega)] at k; exact k _ s) | (rw [if_pos (by omega), if_neg (by omega), if_pos (by omega)] at k; exact k _ s) | (rw [if_pos (by omega), if_neg (by omega), if_neg (by omega), if_neg (by omega)] at k; exact k _ s) | (exfalso; omega)
          · intro hc14
            refine BX12_relay_33  ?_
            first | (rw [if_neg (by omega)] at k; exact k _ s) | (rw [if_pos (by omega), if_pos (by omega)] at k; exact k _ s) | (rw [if_pos (by omega), if_neg (by omega), if_pos (by omega)] at k; exact k _ s) | (rw [if_pos (by omega), if_neg (by omega), if_neg (by omega), if_neg (by omega)] at k; exact k _ s) | (exfalso; omega)
      · intro w3
        refine BX12_relay_25  ?_ ?_
        · intro hc15
          refine BX12_relay_33  ?_
          first | (rw [if_neg (by omega)] at k; exact k _ s) | (rw [if_pos (by omega), if_pos (by omega)] at k; exact k _ s) | (rw [if_pos (by omega), if_neg (by omega), if_pos (by omega)] at k; exact k _ s) | (rw [if_pos (by omega), if_neg (by omega), if_neg (by omega), if_neg (by omega)] at k; exact k _ s) | (exfalso; omega)
        · intro hc16
          exact absurd hc16 (by decide)
  · intro w3
    refine BX12_relay_11  ?_ ?_
    · intro hc17
      refine BX12_relay_33  ?_
      first | (rw [if_neg (by omega)] at k; exact k _ s) | (rw [if_pos (by omega), if_pos (by omega)] at k; exact k _ s) | (rw [if_pos (by omega), if_neg (by omega), if_pos (by omega)] at k; exact k _ s) | (rw [if_pos (by omega), if_neg (by omega), if_neg (by omega), if_neg (by omega)] at k; exact k _ s) | (exfalso; omega)
    · intro hc18
      exact absurd hc18 (by decide)
end RELAY3
