/-! The reference: the call text. -/
theorem clP_cc (F : Int → Int) (q : Cs) : (clP F q).2.2.1 = q.2.2.1 + 1 := by
  unfold clP
  split
  · rfl
  · split <;> rfl
theorem alP_f {F : Int → Int} {q : Cs} (h : q.1.1 ≠ 0) : ∀ m : Nat, alP F m q = q
  | 0 => rfl
  | _ + 1 => if_pos (.inl h)
theorem tCl.ext {C C2 : Int → Int} {b k : Int} {T : Tx} (t : tCl C b T k) (k0 : 0 ≤ k) (k1 : k < 24) (h : ∀ j, b ≤ j → j < b + 705 → C2 j = C j) : tCl C2 b T k := by
  obtain ⟨a1, a2, a3, a4, a5, a6⟩ := t
  unfold tCl
  rw [h (b + 1 + 4 * k) (by omega) (by omega), h (b + 1 + 4 * k + 1) (by omega) (by omega), h (b + 1 + 4 * k + 2) (by omega) (by omega), h (b + 1 + 4 * k + 3) (by omega) (by omega)]
  refine ⟨a1, a2, a3, a4, fun w => ?_, fun w => ?_⟩
  · obtain ⟨D, d1, d2⟩ := a5 w
    have := d2.1
    exact ⟨D, d1, d2.ext fun j j0 j1 => h j (by omega) (by omega)⟩
  · obtain ⟨D, d1, d2⟩ := a6 w
    have := d2.1
    exact ⟨D, d1, d2.ext fun j j0 j1 => h j (by omega) (by omega)⟩
theorem tTx.ext {C C2 : Int → Int} {b : Int} {T : Tx} (t : tTx C b T) (h : ∀ j, b ≤ j → j < b + 705 → C2 j = C j) : tTx C2 b T := by
  obtain ⟨t1, t2, t3, t4, t5⟩ := t
  exact ⟨t1, by rw [h b (Int.le_refl _) (by omega)]; exact t2, fun k k0 k1 => (t3 k k0 k1).ext k0 (by omega) h, t4, t5⟩
section TEXT7
variable {d bc bs n pc : Nat} {g h h1 : aH} {Q : aQ} {M M1 : Int → Int → Int} {W V : Int → Int → Int} {X : Int → Tx} {F B A : Int → Int} {wr cm b : Int} {c : Em} {q : Cs}
theorem TA.text {x : Int} (a : TA A W) (o : okN W) : TA (fset A 1 x) (fset W 3 (fset (W 3) 1 x)) := by
  obtain ⟨ts, te, ty, ⟨u1, u2, u3⟩, tp⟩ := a
  obtain ⟨o1, o2, o3, o4, o5, o6, o7, o8⟩ := o
  exact ⟨ts.ne (by omega) (by omega), te.ne (by omega) (by omega), ty.ne (by omega) (by omega), ⟨rfl, u2, u3⟩, fun s s0 s1 => by rw [fset_ne (by omega)]; exact (tp s s0 s1).lo (by omega)⟩
theorem okN.text {x : Int} (o : okN W) (x0 : 0 ≤ x) (x1 : x ≤ 4) : okN (fset W 3 (fset (W 3) 1 x)) := by
  obtain ⟨o1, o2, o3, o4, o5, o6, o7, o8⟩ := o
  exact ⟨o1, o2, o3, o4, ⟨x0, x1⟩, o6, o7, fun j j0 j1 => by rw [fset_ne (by omega)]; exact o8 j j0 j1⟩
theorem read_loop (ok : okF F) (b0 : 0 ≤ b) (b1 : b ≤ 2115) : ∀ (m : Nat) (q : Cs) (h : aH) (M : Int → Int → Int) (c : Em) (l1 : Option aV), q.1.1 = 0 → IsQ g h M b F q c → q.2.2.1 + m = 25 → ((alP F m q).1.1 = 0 → ∀ h1 M1 c1, IsQ g h1 M1 b F (alP F m q) c1 → Kd M M1 b → Q (some (vI 0)) h1 n) → ((alP F m q).1.1 ≠ 0 → ∀ h1 M1, Bd g h1 M M1 b (alP F m q).1 → Q (some (vI (alP F m q).1.1)) h1 n) → Rn (d + 12) bc bs mX13_readText 43 [some (vR (some 301)), l1] [] h n Q := by
  intro m
  induction m with
  | zero =>
    intro q h M c l1 hq s hm _ _
    exfalso
    have : q.2.2.1 ≤ 24 := s.2.1.1.1.2
    omega
  | succ m ih =>
    intro q h M c l1 hq s hm kG kB
    have e := s.1.1
    have t := s.1.2.2.2.1.2.2
    have t0 := (wk_sg t).1
    have kdd : kdP F q.1 = tkK F q.1.2.2.1 := rfl
    refine BX13_readText_43 e.o rfl (fun q1 => ?_) fun q1 => ?_
    · have k0 := t0.mp q1
      have ea : alP F (m + 1) q = q := if_pos (.inr (by rw [kdd]; exact k0))
      rw [ea] at kG
      exact BX13_readText_64 (kG hq h M c s Kd.rf)
    · have k0 : ¬ tkK F q.1.2.2.1 = 0 := fun w => q1 (t0.mpr w)
      have ea : alP F (m + 1) q = if (cbP F q).1 ≠ 0 then (cbP F q, q.2) else alP F m (clP F q) := if_neg (fun w => w.elim (fun w => w hq) (fun w => k0 (by rw [← kdd]; exact w)))
      rw [ea] at kG kB
      refine BX13_readText_50 e.o ?_
      refine R_X13_clause s hq ok b0 b1 (fun z1 z2 h1 M1 c1 s1 kd1 => ?_) fun S hS h1 M1 bd => ?_
      · rw [if_neg (fun w => w z1)] at kG kB
        refine BX13_readText_54 (fun _ => ?_) fun w => absurd rfl w
        refine BX13_readText_61 ?_
        have cc := clP_cc F q
        exact ih (clP F q) h1 M1 c1 _ z2 s1 (by omega) (fun z3 h2 M2 c2 s2 kd2 => kG z3 h2 M2 c2 s2 (kd1.tr kd2)) fun z3 h2 M2 bd => kB z3 h2 M2 ⟨bd.1, kd1.tr bd.2.1, bd.2.2⟩
      · have hs : S.1 ≠ 0 ∧ (if (cbP F q).1 ≠ 0 then (cbP F q, q.2) else alP F m (clP F q)).1 = S := by
          rcases hS with ⟨z1, z2⟩ | ⟨z1, z2, z3⟩
          · rw [if_pos z1, z2]
            exact ⟨z1, rfl⟩
          · rw [if_neg (fun w => w z1), alP_f z2 m, z3]
            exact ⟨z2, rfl⟩
        rw [hs.2] at kB
        refine BX13_readText_54 (fun w => absurd w hs.1) fun _ => ?_
        exact BX13_readText_59 (kB hs.1 h1 M1 bd)
theorem M_text {sc : Int} {sg cl : Int → Int} (s : IsMo g h W V X F B wr cm) (ok : okF F) (k4 : 4 ≤ W 3 1 → ∀ h1, IsMo g h1 W V X F B wr cm → Q (some (vI (-1))) h1 n) (kn : W 3 1 < 4 → (alP F 25 (q0C sc sg cl)).1.1 ≠ 0 → ∀ h1, IsMo g h1 W V X (txF F (alP F 25 (q0C sc sg cl)).1.1 (alP F 25 (q0C sc sg cl)).1.2.1) B wr cm → Q (some (vI (-1))) h1 n) (ky : W 3 1 < 4 → (alP F 25 (q0C sc sg cl)).1.1 = 0 → ∀ h1, IsMo g h1 (fset W 3 (fset (W 3) 1 (W 3 1 + 1))) V (fset X (W 3 1) (mkT (alP F 25 (q0C sc sg cl)))) (txF F 0 0) B wr cm → Q (some (vI (W 3 1))) h1 n) : Rn (d + 30) bc bs mX13_text 0 [some (vR (some 301))] [] h n Q := by
  obtain ⟨M, e, ⟨ta, tb⟩, ⟨tv, tvb⟩, tx, ⟨⟨tt1, tt2, tt3⟩, tt4⟩, wr0, cm0, on⟩ := id s
  obtain ⟨on1, on2, on3, on4, on5, on6, on7, on8⟩ := id on
  have t1 : M 1 1 = W 3 1 := ta.2.2.2.1.1
  refine BX13_text_0 e.o rfl e.a1 (Ls_get (by decide) (by decide)) (fun q4 => ?_) fun q4 => ?_
  rotate_left
  · exact BX13_text_10 (k4 (by have : M 1 1 = 4 := q4; omega) h s)
  have q4 : M 1 1 ≠ 4 := q4
  have w4 : W 3 1 < 4 := by omega
  have kn := kn w4
  have ky := ky w4
  refine BX13_text_12 e.o ?_
  obtain ⟨b, hb⟩ : ∃ b, b = 705 * W 3 1 := ⟨_, rfl⟩
  have b0 : 0 ≤ b := by omega
  have b1 : b ≤ 2115 := by omega
  have hb2 : 705 * M 1 1 = b := by rw [t1, hb]
  have o1 := ok.1
  -- what the reading leaves
  have back : ∀ (f pl : Int) (h9 : aH) (M9 : Int → Int → Int), IsM g h9 M9 → ((M9 1 = M 1 ∧ M9 2 = M 2 ∧ M9 4 = M 4 ∧ M9 9 = M 9) ∧ (∀ j, (j = 5 ∨ j = 6 ∨ j = 4 ∨ j = 23 ∨ j = 24) → M9 0 j = M 0 j) ∧ (∀ j, j < b → M9 3 j = M 3 j)) → M9 0 8 = pl → (f ≠ 0 → ∀ h1 M1, IsM g h1 M1 → IsMo g h1 W V X (txF F f pl) B wr cm → Q (some (vI (-1))) h1 n) → (f = 0 → ∀ h1 M1, IsM g h1 M1 → M1 1 = fset (M 1) 1 (W 3 1 + 1) → (M1 2 = M 2 ∧ M1 3 = M9 3 ∧ M1 4 = M 4 ∧ M1 9 = M 9) → (M1 0 4 = 0 ∧ M1 0 5 = 0 ∧ M1 0 6 = -1 ∧ M1 0 23 = M 0 23 ∧ M1 0 24 = M 0 24) → Q (some (vI (W 3 1))) h1 n) → Rn (d + 30) bc bs mX13_text 17 [some (vR (some 301))] [vI f, vR (some 301)] h9 n Q := by
    intro f pl h9 M9 e9 k9 p9 kf k0
    obtain ⟨⟨r1, r2, r4, r9⟩, rf, r3⟩ := k9
    refine BX13_text_17 e9.o (by show 5 < (mf (M9 0)).length; unfold mf; simp) ?_
    refine IsM.p0 e9 (mfs_5 _ _) fun h2 M2 e2 u0 uk => ?_
    have u5 : M2 0 5 = f := by rw [u0, fset_at]
    have fin : ∀ (y : Int) (h3 : aH) (M3 : Int → Int → Int), IsM g h3 M3 → M3 0 = fset (M2 0) 6 y → (∀ k, k ≠ 0 → M3 k = M2 k) → (f ≠ 0 → y = pl) → (f = 0 → y = -1) → Rn (d + 30) bc bs mX13_text 39 [some (vR (some 301))] [] h3 n Q := by
      intro y h3 M3 e3 v0 vk y1 y2
      refine BX13_text_39 e3.o (by show 4 < (mf (M3 0)).length; unfold mf; simp) ?_
      refine IsM.p0 e3 (mfs_4 _ _) fun h4 M4 e4 w0 wk => ?_
      have m0 : M4 0 = fset (fset (fset (M9 0) 5 f) 6 y) 4 0 := by rw [w0, v0, u0]
      have mk : ∀ k, k ≠ 0 → M4 k = M9 k := fun k hk => by rw [wk k hk, vk k hk, uk k hk]
      have f5 : M4 0 5 = f := by rw [m0, fset_ne (by decide), fset_ne (by decide), fset_at]
      have f6 : M4 0 6 = y := by rw [m0, fset_ne (by decide), fset_at]
      have f4 : M4 0 4 = 0 := by rw [m0, fset_at]
      have fo : ∀ j, j ≠ 4 → j ≠ 5 → j ≠ 6 → M4 0 j = M9 0 j := fun j h4 h5 h6 => by rw [m0, fset_ne h4, fset_ne h6, fset_ne h5]
      refine BX13_text_44 e4.o rfl (fun z => ?_) fun z => ?_
      · rw [f5] at z
        have m41 : M4 1 = M 1 := (mk 1 (by decide)).trans r1
        have m411 : M4 1 1 = W 3 1 := by rw [m41]; exact t1
        refine BX13_text_53 e4.o rfl e4.a1 (Ls_get (by decide) (by decide)) (by show -2147483648 ≤ M4 1 1 + 1 ∧ M4 1 1 + 1 < 2147483648; omega) (by simp only [Ls_len]; omega) (by decide) ?_
        show Rn _ _ _ _ _ _ _ (up h4 302 (cI ((Ls 3389 (M4 1)).set (1 : Int).toNat (M4 1 1 + 1)))) _ _
        rw [m411, m41]
        have e4' := e4
        refine IsM.w1 (i := 1) (v := W 3 1 + 1) (M := fset M4 1 (M 1)) (by rw [← m41, fset_id]; exact e4) (by decide) fun h5 e5 => ?_
        rw [fset2, fset_at] at e5
        have e5a := e5.a1
        rw [fset_at] at e5a
        refine BX13_text_63 e5.o rfl e5a (Ls_get (by decide) (by decide)) ?_ ?_
        · show -2147483648 ≤ fset (M 1) 1 (W 3 1 + 1) 1 - 1 ∧ fset (M 1) 1 (W 3 1 + 1) 1 - 1 < 2147483648
          rw [fset_at]; omega
        · show Q (some (vI (fset (M 1) 1 (W 3 1 + 1) 1 - 1))) h5 n
          rw [fset_at, show W 3 1 + 1 - 1 = W 3 1 by omega]
          refine k0 z h5 _ e5 (fset_at _ _ _) ⟨?_, ?_, ?_, ?_⟩ ⟨?_, ?_, ?_, ?_, ?_⟩
          · rw [fset_ne (by decide), mk 2 (by decide), r2]
          · rw [fset_ne (by decide), mk 3 (by decide)]
          · rw [fset_ne (by decide), mk 4 (by decide), r4]
          · rw [fset_ne (by decide), mk 9 (by decide), r9]
          · rw [fset_ne (by decide), f4]
          · rw [fset_ne (by decide), f5, z]
          · rw [fset_ne (by decide), f6, y2 z]
          · rw [fset_ne (by decide), fo 23 (by decide) (by decide) (by decide), rf 23 (by decide)]
          · rw [fset_ne (by decide), fo 24 (by decide) (by decide) (by decide), rf 24 (by decide)]
      · rw [f5] at z
        refine BX13_text_51 (kf z h4 M4 e4 ⟨M4, e4, ?_, ?_, fun t t0 t2 => ?_, ⟨⟨?_, ?_, ?_⟩, fun i i0 i1 => ?_⟩, ⟨?_, ?_⟩, ?_, on⟩)
        · rw [mk 1 (by decide), r1]; exact ⟨ta, tb⟩
        · rw [mk 2 (by decide), r2]; exact ⟨tv, tvb⟩
        · rw [mk 3 (by decide)]
          exact (tx t t0 t2).ext fun j j0 j1 => r3 j (by omega)
        · rw [f4]; exact (show txF F f pl 2 = 0 from by unfold txF; rw [fset_ne (by decide), fset_ne (by decide), fset_at]).symm
        · rw [f5]; exact (show txF F f pl 0 = f from by unfold txF; rw [fset_ne (by decide), fset_at]).symm
        · rw [f6, y1 z]; exact (show txF F f pl 1 = pl from by unfold txF; rw [fset_at, if_neg z]).symm
        · exfalso
          have : txF F f pl 2 = 0 := by unfold txF; rw [fset_ne (by decide), fset_ne (by decide), fset_at]
          omega
        · rw [fo 23 (by decide) (by decide) (by decide), rf 23 (by decide)]; exact wr0.1
        · intro z2 i i0 i1
          rw [mk 9 (by decide), r9]
          exact wr0.2 z2 i i0 i1
        · rw [fo 24 (by decide) (by decide) (by decide), rf 24 (by decide)]; exact cm0
    refine BX13_text_20 e2.o rfl (fun z => ?_) fun z => ?_
    · rw [u5] at z
      refine BX13_text_32 e2.o rfl e2.o (by show 6 < (mf (M2 0)).length; unfold mf; simp) ?_
      refine IsM.p0 e2 (mfs_6 _ _) fun h3 M3 e3 v0 vk => ?_
      exact fin (M2 0 8) h3 M3 e3 v0 vk (fun _ => by rw [u0, fset_ne (by decide)]; exact p9) fun w => absurd w z
    · rw [u5] at z
      refine BX13_text_28 e2.o (by show 6 < (mf (M2 0)).length; unfold mf; simp) ?_
      refine IsM.p0 e2 (mfs_6 _ _) fun h3 M3 e3 v0 vk => ?_
      exact fin (-1) h3 M3 e3 v0 vk (fun w => absurd z w) fun _ => rfl
  -- the reading
  refine BX13_readText_0 e.o rfl e.a1 (Ls_get (by decide) (by decide)) (by show -2147483648 ≤ 705 * M 1 1 ∧ 705 * M 1 1 < 2147483648; omega) (by show 12 < (mf (M 0)).length; unfold mf; simp) ?_
  show Rn _ _ _ _ _ _ _ (up h 301 (cO 13 ((mf (M 0)).set 12 (vI (705 * M 1 1))))) _ _
  rw [hb2]
  refine IsM.p0 e (mfs_12 _ _) fun h2 M2 e2 u0 uk => ?_
  have u12 : M2 0 12 = b := by rw [u0, fset_at]
  refine BX13_readText_14 e2.o rfl rfl e2.a3 (by omega) (by simp only [Ls_len]; omega) (by decide) ?_
  rw [u12]
  refine IsM.p3 e2 b0 fun h3 M3 e3 v3 vk => ?_
  refine BX13_readText_24 e3.o (by show 13 < (mf (M3 0)).length; unfold mf; simp) ?_
  refine IsM.p0 e3 (mfs_13 _ _) fun h4 M4 e4 w0 wk => ?_
  refine BX13_readText_29 e4.o (by show 19 < (mf (M4 0)).length; unfold mf; simp) ?_
  refine IsM.p0 e4 (mfs_19 _ _) fun h5 M5 e5 x0 xk => ?_
  refine BX13_readText_34 e5.o (by show 7 < (mf (M5 0)).length; unfold mf; simp) ?_
  refine IsM.p0 e5 (mfs_7 _ _) fun h6 M6 e6 y0 yk => ?_
  refine BX13_readText_39 e6.o ?_
  have m0 : M6 0 = fset (fset (fset (fset (M 0) 12 b) 13 0) 19 0) 7 0 := by rw [y0, x0, w0, vk 0 (by decide), u0]
  have m3 : M6 3 = fset (M 3) b 0 := by rw [yk 3 (by decide), xk 3 (by decide), wk 3 (by decide), v3, uk 3 (by decide)]
  have mk : ∀ k, k ≠ 0 → k ≠ 3 → M6 k = M k := fun k k0 k3 => by rw [yk k k0, xk k k0, wk k k0, vk k k3, uk k k0]
  have mo : ∀ j, j ≠ 7 → j ≠ 12 → j ≠ 13 → j ≠ 19 → M6 0 j = M 0 j := fun j h7 h12 h13 h19 => by rw [m0, fset_ne h7, fset_ne h19, fset_ne h13, fset_ne h12]
  have tp6 : tpM M6 F (M6 0) := ⟨by rw [mo 4 (by decide) (by decide) (by decide) (by decide)]; exact tt1, by rw [mk 4 (by decide) (by decide)]; exact tt4⟩
  have kd6 : ∀ {M9 : Int → Int → Int}, (∀ k, k ≠ 0 → M9 k = M6 k) → frG M6 (M9 0) → (M9 1 = M 1 ∧ M9 2 = M 2 ∧ M9 4 = M 4 ∧ M9 9 = M 9) ∧ (∀ j, (j = 4 ∨ j = 5 ∨ j = 6 ∨ j = 23 ∨ j = 24) → M9 0 j = M 0 j) ∧ (∀ j, j < b → M9 3 j = M 3 j) := fun hk hf => ⟨⟨by rw [hk 1 (by decide), mk 1 (by decide) (by decide)], by rw [hk 2 (by decide), mk 2 (by decide) (by decide)], by rw [hk 4 (by decide), mk 4 (by decide) (by decide)], by rw [hk 9 (by decide), mk 9 (by decide) (by decide)]⟩, fun j hj => by rw [hf j (by omega), mo j (by omega) (by omega) (by omega) (by omega)], fun j hj => by rw [hk 3 (by decide), m3, fset_ne (by omega)]⟩
  refine R_X13_nextToken (q := 0) e6 tp6 ok (by rw [m0, fset_at]) (by decide) o1.1 fun h7 G e7 fG g8 g7 tr => ?_
  have qk : ∀ k, k ≠ 0 → fset M6 0 G k = M6 k := fun k hk => fset_ne hk
  have q0 : fset M6 0 G 0 = G := fset_at _ _ _
  have e7 : IsM g h7 (fset M6 0 G) := e7
  have k67 := kd6 (M9 := fset M6 0 G) qk (by rw [q0]; exact fG)
  generalize fset M6 0 G = M7 at *
  have s7 : IsQ g h7 M7 b F (q0C sc sg cl) [] := by
    refine ⟨⟨e7, ⟨by rw [q0, fG 4 (by decide)]; exact tp6.1, by rw [qk 4 (by decide)]; exact tp6.2⟩, ⟨by rw [q0, fG 12 (by decide), m0, fset_ne (by decide), fset_ne (by decide), fset_ne (by decide), fset_at], by rw [q0, fG 13 (by decide), m0, fset_ne (by decide), fset_ne (by decide), fset_at]; rfl⟩, ⟨by rw [q0]; exact g8, by rw [q0]; exact g7, by rw [q0]; exact tr⟩, fun i x hx => by cases hx⟩, ⟨⟨⟨by show (0 : Int) ≤ 0; decide, by show (0 : Int) ≤ 24; decide⟩, by rw [qk 3 (by decide), m3, fset_at]; rfl, fun k k0 k1 => by exfalso; have k1 : k < 0 := k1; omega, .inl rfl, .inl rfl⟩, fun k k0 k1 => by exfalso; have k1 : k < 0 := k1; omega⟩, by rw [q0, fG 19 (by decide), m0, fset_ne (by decide), fset_at]; rfl, ⟨by show (0 : Int) ≤ 0; decide, o1.1, trivial⟩, by show ((0 : Nat) : Int) ≤ 0; decide⟩
  have kdM : ∀ {M9 : Int → Int → Int}, Kd M7 M9 b → (M9 1 = M 1 ∧ M9 2 = M 2 ∧ M9 4 = M 4 ∧ M9 9 = M 9) ∧ (∀ j, (j = 5 ∨ j = 6 ∨ j = 4 ∨ j = 23 ∨ j = 24) → M9 0 j = M 0 j) ∧ (∀ j, j < b → M9 3 j = M 3 j) := fun kd => ⟨⟨kd.1.1.trans k67.1.1, kd.1.2.1.trans k67.1.2.1, kd.1.2.2.1.trans k67.1.2.2.1, kd.1.2.2.2.trans k67.1.2.2.2⟩, fun j hj => (kd.2.1 j (by omega)).trans (k67.2.1 j (by omega)), fun j hj => (kd.2.2 j hj).trans (k67.2.2 j hj)⟩
  refine read_loop ok b0 b1 25 (q0C sc sg cl) h7 M7 [] _ rfl s7 (by show (0 : Int) + 25 = 25; decide) (fun hz h8 M8 c8 s8 kd8 => ?_) fun hz h8 M8 bd => ?_
  · refine back 0 (M8 0 8) h8 M8 s8.1.1 (kdM kd8) rfl (fun w => absurd rfl w) fun _ h9 M9 e9 m1 ⟨m2, m3', m4, m9⟩ ⟨f4, f5, f6, f23, f24⟩ => ?_
    have ky := ky hz
    have t8 := s8.2.1.1
    have k8 := (kdM kd8).2.2
    generalize alP F 25 (q0C sc sg cl) = R at *
    have x2 : txF F 0 0 2 = 0 := by unfold txF; rw [fset_ne (by decide), fset_ne (by decide), fset_at]
    refine ky h9 ⟨M9, e9, ⟨?_, ?_⟩, ?_, fun t t0 t2 => ?_, ⟨⟨?_, ?_, ?_⟩, fun i i0 i1 => ?_⟩, ⟨?_, ?_⟩, ?_, on.text (by omega) (by omega)⟩
    · rw [m1]; exact ta.text on
    · rw [m1]
      show tBk (fset (M 1) 1 (W 3 1 + 1)) (if wr = 1 then W 1 else B)
      exact tb.ne (by omega)
    · rw [m2]; exact ⟨tv, tvb⟩
    · have t2 : t < W 3 1 + 1 := t2
      rw [m3']
      by_cases q : t = W 3 1
      · subst q
        rw [fset_at, ← hb]
        exact t8
      · rw [fset_ne q]
        exact (tx t t0 (by omega)).ext fun j j0 j1 => k8 j (by omega)
    · rw [f4]; exact x2.symm
    · rw [f5]; exact (show txF F 0 0 0 = 0 from by unfold txF; rw [fset_ne (by decide), fset_at]).symm
    · rw [f6]; exact (show txF F 0 0 1 = -1 from by unfold txF; rw [fset_at, if_pos rfl]).symm
    · exfalso; omega
    · rw [f23]; exact wr0.1
    · intro z2 i i0 i1
      rw [m9]
      exact wr0.2 z2 i i0 i1
    · rw [f24]; exact cm0
  · exact back _ _ h8 M8 bd.1 (kdM bd.2.1) bd.2.2 (fun _ h1 M1 _ im => kn hz h1 im) fun z => absurd z hz
end TEXT7
