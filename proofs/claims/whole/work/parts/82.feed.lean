section FEED2
variable {d bc bs n : Nat} {g h : aH} {Q : aQ} {W V : Int → Int → Int} {X : Int → Tx} {F : Int → Int}
theorem fourM_lo {F : Int → Int} {x j : Int} (h : 0 ≤ F 2) (j0 : j < 2) : fourM F x j = F j := by
  have e4 : ∀ (F : Int → Int) (b : Int), putB F b 2 = F 2 + 1 := fun F b => fset_at _ _ _
  have e5 : ∀ (F : Int → Int) (b : Int), 0 ≤ F 2 → putB F b j = F j := fun F b h => by unfold putB; rw [fset_ne (by omega), fset_ne (by omega)]
  unfold fourM
  rw [e5 _ _ (by rw [e4, e4, e4]; omega), e5 _ _ (by rw [e4, e4]; omega), e5 _ _ (by rw [e4]; omega), e5 _ _ h]
theorem fourM_ok {F : Int → Int} {x : Int} (o : okF F) (h : F 2 + 4 ≤ 300) : okF (fourM F x) := by
  have e4 : ∀ (F : Int → Int) (b : Int), putB F b 2 = F 2 + 1 := fun F b => fset_at _ _ _
  have b : ∀ k, 0 ≤ byM x k ∧ byM x k ≤ 255 := fun k => and255 _
  have o1 := putB_ok o (by omega) (b 24).1 (b 24).2
  have o2 := putB_ok o1 (by rw [e4]; omega) (b 16).1 (b 16).2
  have o3 := putB_ok o2 (by rw [e4, e4]; omega) (b 8).1 (b 8).2
  exact putB_ok o3 (by rw [e4, e4, e4]; omega) (b 0).1 (b 0).2
theorem P_feed {a b c dd e : Int} (s : IsPo g h W V X F) (o : okF F) (k : ∀ h1, IsPo g h1 W V X (sFeed F a b c dd e) → Q (some (vI (aFeed F))) h1 n) : Rn (d + 30) bc bs mX12_feed 0 [some (vR (some 1)), some (vI a), some (vI b), some (vI c), some (vI dd), some (vI e)] [] h n Q := by
  obtain ⟨fp, p1, w, v, tp, gr, ⟨lx, la⟩, ro, ri, Gx, gl⟩ := id s; have w1 := w.1; have sh := w.2.1; have se := w.2.2.1; obtain ⟨Ts, ps, st, ste⟩ := w.2.2.2.1; have sa := w.2.2.2.2.1; have sh1 := sh.1; have se1 := se.1; have st1 := st.1; have sa1 := sa.1; obtain ⟨tl, la1⟩ := la.ob; have gl1 := gl.1; have bk0 := se.2.2; have bk1 := bk0.1
  obtain ⟨n1, n2, n3, n4, tp1, tp2⟩ := tp
  have tk : IsTk h F n1 n2 n3 n4 := ⟨tp1, tp2⟩
  have o1 := o.1
  have f1 := fourM_2 F a
  have f2 := fourM_2 (fourM F a) b
  have f3 := fourM_2 (fourM (fourM F a) b) c
  have f4 := fourM_2 (fourM (fourM (fourM F a) b) c) dd
  have f5 := fourM_2 (fourM (fourM (fourM (fourM F a) b) c) dd) e
  have l0 : ∀ j, j < 2 → fourM (fourM (fourM (fourM (fourM F a) b) c) dd) e j = F j := fun j hj => by
    rw [fourM_lo (by omega) hj, fourM_lo (by omega) hj, fourM_lo (by omega) hj, fourM_lo (by omega) hj, fourM_lo o1.1 hj]
  unfold aFeed sFeed at k
  refine BX12_feed_0 (by first | assumption | exact up_at _ _ _ | (rw [up_ne (by omega)]; first | assumption | exact up_at _ _ _ | (rw [up_ne (by omega)]; first | assumption | exact up_at _ _ _ | (rw [up_ne (by omega)]; assumption)))) (by rfl) (by first | assumption | exact up_at _ _ _ | (rw [up_ne (by omega)]; first | assumption | exact up_at _ _ _ | (rw [up_ne (by omega)]; first | assumption | exact up_at _ _ _ | (rw [up_ne (by omega)]; assumption)))) ?_
  refine R_X9_hasRoom (by first | omega | assumption | (simp only [Ls_len]; omega) | exact Ls_get (by omega) (by omega) | rfl | decide) (by first | omega | assumption | (simp only [Ls_len]; omega) | exact Ls_get (by omega) (by omega) | rfl | decide) (by first | omega | assumption | (simp only [Ls_len]; omega) | exact Ls_get (by omega) (by omega) | rfl | decide) (by first | omega | assumption | (simp only [Ls_len]; omega) | exact Ls_get (by omega) (by omega) | rfl | decide) ?_ ?_
  · intro w6
    refine BX12_feed_9  ?_ ?_
    · intro hc1
      refine BX12_feed_14 (by first | assumption | exact up_at _ _ _ | (rw [up_ne (by omega)]; first | assumption | exact up_at _ _ _ | (rw [up_ne (by omega)]; first | assumption | exact up_at _ _ _ | (rw [up_ne (by omega)]; assumption)))) (by rfl) (by first | assumption | exact up_at _ _ _ | (rw [up_ne (by omega)]; first | assumption | exact up_at _ _ _ | (rw [up_ne (by omega)]; first | assumption | exact up_at _ _ _ | (rw [up_ne (by omega)]; assumption)))) ?_
      refine R_X9_addFour (by first | omega | assumption | (simp only [Ls_len]; omega) | exact Ls_get (by omega) (by omega) | rfl | decide) (by first | omega | assumption | (simp only [Ls_len]; omega) | exact Ls_get (by omega) (by omega) | rfl | decide) (by first | omega | assumption | (simp only [Ls_len]; omega) | exact Ls_get (by omega) (by omega) | rfl | decide) ?_
      intro h19 r19 e19
      have p1 := (r19 1 (by decide)).trans p1
      have tq := e19.1
      refine BX12_feed_22 (by first | assumption | exact up_at _ _ _ | (rw [up_ne (by omega)]; first | assumption | exact up_at _ _ _ | (rw [up_ne (by omega)]; first | assumption | exact up_at _ _ _ | (rw [up_ne (by omega)]; assumption)))) (by rfl) (by first | assumption | exact up_at _ _ _ | (rw [up_ne (by omega)]; first | assumption | exact up_at _ _ _ | (rw [up_ne (by omega)]; first | assumption | exact up_at _ _ _ | (rw [up_ne (by omega)]; assumption)))) ?_
      refine R_X9_addFour (by first | omega | assumption | (simp only [Ls_len]; omega) | exact Ls_get (by omega) (by omega) | rfl | decide) (by first | omega | assumption | (simp only [Ls_len]; omega) | exact Ls_get (by omega) (by omega) | rfl | decide) (by first | omega | assumption | (simp only [Ls_len]; omega) | exact Ls_get (by omega) (by omega) | rfl | decide) ?_
      intro h27 r27 e27
      have p1 := (r27 1 (by decide)).trans p1
      have tq := e27.1
      refine BX12_feed_30 (by first | assumption | exact up_at _ _ _ | (rw [up_ne (by omega)]; first | assumption | exact up_at _ _ _ | (rw [up_ne (by omega)]; first | assumption | exact up_at _ _ _ | (rw [up_ne (by omega)]; assumption)))) (by rfl) (by first | assumption | exact up_at _ _ _ | (rw [up_ne (by omega)]; first | assumption | exact up_at _ _ _ | (rw [up_ne (by omega)]; first | assumption | exact up_at _ _ _ | (rw [up_ne (by omega)]; assumption)))) ?_
      refine R_X9_addFour (by first | omega | assumption | (simp only [Ls_len]; omega) | exact Ls_get (by omega) (by omega) | rfl | decide) (by first | omega | assumption | (simp only [Ls_len]; omega) | exact Ls_get (by omega) (by omega) | rfl | decide) (by first | omega | assumption | (simp only [Ls_len]; omega) | exact Ls_get (by omega) (by omega) | rfl | decide) ?_
      intro h35 r35 e35
      have p1 := (r35 1 (by decide)).trans p1
      have tq := e35.1
      refine BX12_feed_38 (by first | assumption | exact up_at _ _ _ | (rw [up_ne (by omega)]; first | assumption | exact up_at _ _ _ | (rw [up_ne (by omega)]; first | assumption | exact up_at _ _ _ | (rw [up_ne (by omega)]; assumption)))) (by rfl) (by first | assumption | exact up_at _ _ _ | (rw [up_ne (by omega)]; first | assumption | exact up_at _ _ _ | (rw [up_ne (by omega)]; first | assumption | exact up_at _ _ _ | (rw [up_ne (by omega)]; assumption)))) ?_
      refine R_X9_addFour (by first | omega | assumption | (simp only [Ls_len]; omega) | exact Ls_get (by omega) (by omega) | rfl | decide) (by first | omega | assumption | (simp only [Ls_len]; omega) | exact Ls_get (by omega) (by omega) | rfl | decide) (by first | omega | assumption | (simp only [Ls_len]; omega) | exact Ls_get (by omega) (by omega) | rfl | decide) ?_
      intro h44 r44 e44
      have p1 := (r44 1 (by decide)).trans p1
      have tq := e44.1
      refine BX12_feed_47 (by first | assumption | exact up_at _ _ _ | (rw [up_ne (by omega)]; first | assumption | exact up_at _ _ _ | (rw [up_ne (by omega)]; first | assumption | exact up_at _ _ _ | (rw [up_ne (by omega)]; assumption)))) (by rfl) (by first | assumption | exact up_at _ _ _ | (rw [up_ne (by omega)]; first | assumption | exact up_at _ _ _ | (rw [up_ne (by omega)]; first | assumption | exact up_at _ _ _ | (rw [up_ne (by omega)]; assumption)))) ?_
      refine R_X9_addFour (by first | omega | assumption | (simp only [Ls_len]; omega) | exact Ls_get (by omega) (by omega) | rfl | decide) (by first | omega | assumption | (simp only [Ls_len]; omega) | exact Ls_get (by omega) (by omega) | rfl | decide) (by first | omega | assumption | (simp only [Ls_len]; omega) | exact Ls_get (by omega) (by omega) | rfl | decide) ?_
      intro h53 r53 e53
      have p1 := (r53 1 (by decide)).trans p1
      have tq := e53.1
      refine BX12_feed_56 (by first | assumption | exact up_at _ _ _ | (rw [up_ne (by omega)]; first | assumption | exact up_at _ _ _ | (rw [up_ne (by omega)]; first | assumption | exact up_at _ _ _ | (rw [up_ne (by omega)]; assumption)))) (by rfl) (by first | assumption | exact up_at _ _ _ | (rw [up_ne (by omega)]; first | assumption | exact up_at _ _ _ | (rw [up_ne (by omega)]; first | assumption | exact up_at _ _ _ | (rw [up_ne (by omega)]; assumption)))) (by rfl) ?_
      rw [if_pos (by omega), if_pos (by omega)] at k
      rw [show fourM (fourM (fourM (fourM (fourM F a) b) c) dd) e 2 = F 2 + 20 by omega]
      exact k _ (s.tap ((((r19.tr r27).tr r35).tr r44).tr r53) e53.is (l0 0 (by decide)) (l0 1 (by decide)))
    · intro hc2
      exact absurd hc2 (by decide)
  · intro w6
    refine BX12_feed_9  ?_ ?_
    · intro hc3
      exact absurd hc3 (by decide)
    · intro hc4
      refine BX12_feed_12  ?_
      (rw [if_neg (by omega), if_neg (by omega)] at k; exact k _ s)
end FEED2
