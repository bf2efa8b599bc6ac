/-! The reference's clauses that are no laws; what begins a clause. -/
def HF (M M1 : Int → Int → Int) (kd x cc : Int) (cl cl1 : Int → Int) : Prop := (∀ j, (j ≤ x ∨ x + 3 < j) → M1 3 j = M 3 j) ∧ (18 ≤ kd → M1 3 (x + 1) = cl1 (cc * 4 + 1)) ∧ (18 ≤ kd ∧ kd ≤ 21 → M1 3 (x + 2) = cl1 (cc * 4 + 2)) ∧ (19 ≤ kd ∧ kd ≤ 20 → M1 3 (x + 3) = cl1 (cc * 4 + 3)) ∧ (∀ j, (j < cc * 4 + 1 ∨ cc * 4 + 3 < j) → cl1 j = cl j) ∧ (kd = 23 → 1 ≤ cl1 (cc * 4 + 1) ∧ cl1 (cc * 4 + 1) ≤ 60)
section BODY
variable {d bc bs n pc : Nat} {g h h1 : aH} {Q : aQ} {M M1 : Int → Int → Int} {F : Int → Int} {b p o w x cc lo hi iw kd : Int} {c : Em} {q : Ps × (Int → Int)}
theorem R_body_n {l3 : Option aV} (s : IsY g h M b F q.1.2.2.1 c) (hq : q.1.1 = 0) (ok : okF F) (b0 : 0 ≤ b) (b1 : b ≤ 2115) (p0 : 0 ≤ q.1.2.2.1) (p1 : q.1.2.2.1 ≤ F 2) (c0 : 0 ≤ cc) (c1 : cc ≤ 23) (hx : x = b + 1 + 4 * cc) (d0 : 18 ≤ kd) (d1 : kd ≤ 23) (k1 : (nuP F cc kd q).1.1 = 0 → ∀ h1 M1, IsY g h1 M1 b F (nuP F cc kd q).1.2.2.1 c → Fw M M1 → HF M M1 kd x cc q.2 (nuP F cc kd q).2 → okQ F (nuP F cc kd q).1 → q.1.2.2.1 ≤ (nuP F cc kd q).1.2.2.1 → Q (some (vI 0)) h1 n) (k0 : (nuP F cc kd q).1.1 ≠ 0 → ∀ h1 M1, Bd g h1 M M1 b (nuP F cc kd q).1 → Q (some (vI (nuP F cc kd q).1.1)) h1 n) : Rn (d + 5) bc bs mX13_body 0 [some (vR (some 301)), some (vI (kd - 16)), some (vI x), l3] [] h n Q := by
  have e := s.1
  have two : ∀ (top kk top2 : Int), nuP F cc kd q = prP F cc top kk top2 q → (kd = 18 ∨ kd = 21) → ((prP F cc top kk top2 q).1.1 = 0 → ∀ h1 M1, IsY g h1 M1 b F (prP F cc top kk top2 q).1.2.2.1 c → Fw M M1 → M1 3 = fset (fset (M 3) (x + 1) ((prP F cc top kk top2 q).2 (cc * 4 + 1))) (x + 2) ((prP F cc top kk top2 q).2 (cc * 4 + 2)) → (∀ j, j ≠ cc * 4 + 1 → j ≠ cc * 4 + 2 → (prP F cc top kk top2 q).2 j = q.2 j) → okQ F (prP F cc top kk top2 q).1 → q.1.2.2.1 ≤ (prP F cc top kk top2 q).1.2.2.1 → Q (some (vI 0)) h1 n) := by
    intro top kk top2 en hk hz h1 M1 s1 f1 m1 l1 o1 le
    rw [← en] at *
    refine k1 hz h1 M1 s1 f1 ⟨fun j hj => by rw [m1, fset_ne (by omega), fset_ne (by omega)], fun _ => by rw [m1, fset_ne (by omega), fset_at], fun _ => by rw [m1, fset_at], fun w => by omega, fun j hj => l1 j (by omega) (by omega), fun w => by omega⟩ o1 le
  have thr : ∀ (top kk top2 k3 lo3 hi3 : Int), nuP F cc kd q = rnP F cc 3 lo3 hi3 (wnP F k3 (prP F cc top kk top2 q)) → (kd = 19 ∨ kd = 20) → ∀ h1 M1, IsY g h1 M1 b F (prP F cc top kk top2 q).1.2.2.1 c → Fw M M1 → M1 3 = fset (fset (M 3) (x + 1) ((prP F cc top kk top2 q).2 (cc * 4 + 1))) (x + 2) ((prP F cc top kk top2 q).2 (cc * 4 + 2)) → (∀ j, j ≠ cc * 4 + 1 → j ≠ cc * 4 + 2 → (prP F cc top kk top2 q).2 j = q.2 j) → q.1.2.2.1 ≤ (prP F cc top kk top2 q).1.2.2.1 → ((rnP F cc 3 lo3 hi3 (wnP F k3 (prP F cc top kk top2 q))).1.1 = 0 → ∀ h2 M2, IsY g h2 M2 b F (rnP F cc 3 lo3 hi3 (wnP F k3 (prP F cc top kk top2 q))).1.2.2.1 c → Fw M1 M2 → M2 3 = fset (M1 3) (x + 3) ((rnP F cc 3 lo3 hi3 (wnP F k3 (prP F cc top kk top2 q))).2 (cc * 4 + 3)) → (∀ j, j ≠ cc * 4 + 3 → (rnP F cc 3 lo3 hi3 (wnP F k3 (prP F cc top kk top2 q))).2 j = (prP F cc top kk top2 q).2 j) → (lo3 ≤ (rnP F cc 3 lo3 hi3 (wnP F k3 (prP F cc top kk top2 q))).2 (cc * 4 + 3) ∧ (rnP F cc 3 lo3 hi3 (wnP F k3 (prP F cc top kk top2 q))).2 (cc * 4 + 3) ≤ hi3) → okQ F (rnP F cc 3 lo3 hi3 (wnP F k3 (prP F cc top kk top2 q))).1 → (prP F cc top kk top2 q).1.2.2.1 ≤ (rnP F cc 3 lo3 hi3 (wnP F k3 (prP F cc top kk top2 q))).1.2.2.1 → Q (some (vI 0)) h2 n) := by
    intro top kk top2 k3 lo3 hi3 en hk h1 M1 s1 f1 m1 l1 le hz h2 M2 s2 f2 m2 l2 g2 o2 le2
    rw [← en] at *
    generalize prP F cc top kk top2 q = r at *
    refine k1 hz h2 M2 s2 (f1.tr f2) ⟨fun j hj => by rw [m2, fset_ne (by omega), m1, fset_ne (by omega), fset_ne (by omega)], fun _ => by rw [m2, fset_ne (by omega), m1, fset_ne (by omega), fset_at, l2 _ (by omega)], fun _ => by rw [m2, fset_ne (by omega), m1, fset_at, l2 _ (by omega)], fun _ => by rw [m2, fset_at], fun j hj => by rw [l2 j (by omega), l1 j (by omega) (by omega)], fun w => by omega⟩ o2 (by omega)
  have one : ∀ (lo hi : Int), nuP F cc kd q = rnP F cc 1 lo hi q → (kd = 22 ∨ (kd = 23 ∧ lo = 1 ∧ hi = 60)) → ((rnP F cc 1 lo hi q).1.1 = 0 → ∀ h1 M1, IsY g h1 M1 b F (rnP F cc 1 lo hi q).1.2.2.1 c → Fw M M1 → M1 3 = fset (M 3) (x + 1) ((rnP F cc 1 lo hi q).2 (cc * 4 + 1)) → (∀ j, j ≠ cc * 4 + 1 → (rnP F cc 1 lo hi q).2 j = q.2 j) → (lo ≤ (rnP F cc 1 lo hi q).2 (cc * 4 + 1) ∧ (rnP F cc 1 lo hi q).2 (cc * 4 + 1) ≤ hi) → okQ F (rnP F cc 1 lo hi q).1 → q.1.2.2.1 ≤ (rnP F cc 1 lo hi q).1.2.2.1 → Q (some (vI 0)) h1 n) := by
    intro lo hi en hk hz h1 M1 s1 f1 m1 l1 g1 o1 le
    rw [← en] at *
    refine k1 hz h1 M1 s1 f1 ⟨fun j hj => by rw [m1, fset_ne (by omega)], fun _ => by rw [m1, fset_at], fun w => by omega, fun w => by omega, fun j hj => l1 j (by omega), fun w => by omega⟩ o1 le
  refine BX13_body_0 (fun w => by exfalso; omega) (fun w => ?_) (fun w => ?_) (fun w => ?_) (fun w => ?_) (fun w => ?_) (fun w => ?_)
  · have hk : kd = 18 := by omega
    have en : nuP F cc kd q = prP F cc 9 26 9 q := if_pos hk
    have k1' := two 9 26 9 en (by omega)
    rw [en] at k0
    refine BX13_body_40 ?_
    refine R_X13_w4 ?_
    refine BX13_body_55 e.o ?_
    exact R_X13_pair s hq ok b0 b1 p0 p1 c0 c1 (by decide) (by decide) hx wd_luck (by decide) (fun hz h1 M1 s1 f1 m1 l1 o1 le => BX13_body_60 (k1' hz h1 M1 s1 f1 m1 l1 o1 le)) fun hz h1 M1 bd => BX13_body_60 (k0 hz h1 M1 bd)
  · have hk : kd = 19 := by omega
    have en : nuP F cc kd q = rnP F cc 3 0 9 (wnP F 29 (prP F cc 2 28 9 q)) := by unfold nuP; rw [if_neg (by omega), if_pos hk]; rfl
    have k3 := thr 2 28 9 29 0 9 en (by omega)
    rw [en] at k0
    refine BX13_body_61 ?_
    refine R_X13_w4 ?_
    refine BX13_body_75 e.o ?_
    refine R_X13_pair s hq ok b0 b1 p0 p1 c0 c1 (by decide) (by decide) hx wd_from (by decide) (fun hz h1 M1 s1 f1 m1 l1 o1 le => ?_) fun hz h1 M1 bd => ?_
    · refine BX13_body_80 (fun _ => ?_) fun w => absurd rfl w
      refine BX13_body_89 ?_
      refine R_X13_w2 ?_
      refine BX13_body_97 (by omega) s1.1.o ?_
      have kdd : Kd M M1 b := f1.d fun j hj => by rw [m1, fset_ne (by omega), fset_ne (by omega)]
      exact R_X13_worded (cc := cc) (w := 3) s1 hz ok b0 b1 o1.1 o1.2.1 c0 c1 (by decide) (by decide) (by decide) (by omega) wd_to (by decide) (fun hz2 h2 M2 s2 f2 m2 l2 g2 o2 le2 => BX13_body_106 (k3 h1 M1 s1 f1 m1 l1 le hz2 h2 M2 s2 f2 m2 l2 g2 o2 le2)) fun hz2 h2 M2 bd => BX13_body_106 (k0 hz2 h2 M2 ⟨bd.1, kdd.tr bd.2.1, bd.2.2⟩)
    · refine BX13_body_80 (fun w => absurd w hz) fun _ => ?_
      rw [wnP_st hz, rnP_st hz] at k0
      exact BX13_body_85 (k0 hz h1 M1 bd)
  · have hk : kd = 20 := by omega
    have en : nuP F cc kd q = rnP F cc 3 1 99 (wnP F 25 (prP F cc 5 29 5 q)) := by unfold nuP; rw [if_neg (by omega), if_neg (by omega), if_pos hk]; rfl
    have k3 := thr 5 29 5 25 1 99 en (by omega)
    rw [en] at k0
    refine BX13_body_107 ?_
    refine R_X13_w2 ?_
    refine BX13_body_117 e.o ?_
    refine R_X13_pair s hq ok b0 b1 p0 p1 c0 c1 (by decide) (by decide) hx wd_to (by decide) (fun hz h1 M1 s1 f1 m1 l1 o1 le => ?_) fun hz h1 M1 bd => ?_
    · refine BX13_body_121 (fun _ => ?_) fun w => absurd rfl w
      refine BX13_body_130 ?_
      refine R_X13_w4 ?_
      refine BX13_body_142 (by omega) s1.1.o ?_
      have kdd : Kd M M1 b := f1.d fun j hj => by rw [m1, fset_ne (by omega), fset_ne (by omega)]
      exact R_X13_worded (cc := cc) (w := 3) s1 hz ok b0 b1 o1.1 o1.2.1 c0 c1 (by decide) (by decide) (by decide) (by omega) wd_cork (by decide) (fun hz2 h2 M2 s2 f2 m2 l2 g2 o2 le2 => BX13_body_151 (k3 h1 M1 s1 f1 m1 l1 le hz2 h2 M2 s2 f2 m2 l2 g2 o2 le2)) fun hz2 h2 M2 bd => BX13_body_151 (k0 hz2 h2 M2 ⟨bd.1, kdd.tr bd.2.1, bd.2.2⟩)
    · refine BX13_body_121 (fun w => absurd w hz) fun _ => ?_
      rw [wnP_st hz, rnP_st hz] at k0
      exact BX13_body_126 (k0 hz h1 M1 bd)
  · have hk : kd = 21 := by omega
    have en : nuP F cc kd q = prP F cc 11 31 5 q := by unfold nuP; rw [if_neg (by omega), if_neg (by omega), if_neg (by omega), if_pos hk]; rfl
    have k1' := two 11 31 5 en (by omega)
    rw [en] at k0
    refine BX13_body_152 ?_
    refine R_X13_w2 ?_
    refine BX13_body_163 e.o ?_
    exact R_X13_pair s hq ok b0 b1 p0 p1 c0 c1 (by decide) (by decide) hx wd_by (by decide) (fun hz h1 M1 s1 f1 m1 l1 o1 le => BX13_body_167 (k1' hz h1 M1 s1 f1 m1 l1 o1 le)) fun hz h1 M1 bd => BX13_body_167 (k0 hz h1 M1 bd)
  · have hk : kd = 22 := by omega
    have en : nuP F cc kd q = rnP F cc 1 0 11 q := by unfold nuP; rw [if_neg (by omega), if_neg (by omega), if_neg (by omega), if_neg (by omega), if_pos hk]
    have k1' := one 0 11 en (.inl hk)
    rw [en] at k0
    refine BX13_body_168 (by omega) e.o ?_
    exact R_X13_figure (cc := cc) (w := 1) s hq ok b0 b1 p0 p1 c0 c1 (by decide) (by decide) (by decide) (by omega) (fun hz h1 M1 s1 f1 m1 l1 g1 o1 le => BX13_body_178 (k1' hz h1 M1 s1 f1 m1 l1 g1 o1 le)) fun hz h1 M1 bd => BX13_body_178 (k0 hz h1 M1 bd)
  · have hk : kd = 23 := by omega
    have en : nuP F cc kd q = rnP F cc 1 1 60 q := by unfold nuP; rw [if_neg (by omega), if_neg (by omega), if_neg (by omega), if_neg (by omega), if_neg (by omega)]
    have k1' := one 1 60 en (.inr ⟨hk, rfl, rfl⟩)
    rw [en] at k0
    refine BX13_body_179 (by omega) e.o ?_
    exact R_X13_figure (cc := cc) (w := 1) s hq ok b0 b1 p0 p1 c0 c1 (by decide) (by decide) (by decide) (by omega) (fun hz h1 M1 s1 f1 m1 l1 g1 o1 le => BX13_body_189 (k1' hz h1 M1 s1 f1 m1 l1 g1 o1 le)) fun hz h1 M1 bd => BX13_body_189 (k0 hz h1 M1 bd)
theorem byA_lo {p : Int} (ok : okF F) (h0 : 0 ≤ p) (h1 : p < F 2) : 0 ≤ byA F p ∧ byA F p ≤ 255 := by
  unfold byA
  rw [if_pos ⟨h0, h1⟩]
  exact ok.2 p h0 h1
theorem wC2_v {x y : Int} (x0 : 0 ≤ x) (x1 : x ≤ 255) (y0 : 0 ≤ y) (y1 : y ≤ 255) : wC2 x y = x * 256 + y := pk_or x0 (by omega) y0 (by omega)
theorem wC3_v {x y z : Int} (x0 : 0 ≤ x) (x1 : x ≤ 255) (y0 : 0 ≤ y) (y1 : y ≤ 255) (z0 : 0 ≤ z) (z1 : z ≤ 255) : wC3 x y z = (x * 256 + y) * 256 + z := by
  unfold wC3
  rw [wC2_v x0 x1 y0 y1]
  exact pk_or (by omega) (by omega) z0 (by omega)
theorem wC4_v {x y z u : Int} (x0 : 0 ≤ x) (x1 : x ≤ 255) (y0 : 0 ≤ y) (y1 : y ≤ 255) (z0 : 0 ≤ z) (z1 : z ≤ 255) (u0 : 0 ≤ u) (u1 : u ≤ 255) : wC4 x y z u = ((x * 256 + y) * 256 + z) * 256 + u := by
  unfold wC4
  rw [wC3_v x0 x1 y0 y1 z0 z1]
  exact pk_or (by omega) (by omega) u0 (by omega)
theorem R_X13_isCurrent (s : IsY g h M b F p c) (ok : okF F) (p0 : 0 ≤ p) (p1 : p ≤ F 2) (kt : tkK F p = 19 → Q (some (vI 1)) h n) (kf : tkK F p ≠ 19 → Q (some (vI 0)) h n) : Rn (d + 3) bc bs mX13_isCurrent 0 [some (vR (some 301))] [] h n Q := by
  obtain ⟨e, tp, a, ⟨t1, t2, t3⟩, em⟩ := s
  have e0 : MG g h M (M 0) := by unfold MG; rw [fset_id]; exact e
  have t19 := t3.2.2.2
  have f3 := ok.1.2
  have tn := tkN_in ok p0 p1
  have ts := tkS_in (F := F) p1
  refine BX13_isCurrent_0 e.o rfl (fun q => ?_) fun q => ?_
  · exact BX13_isCurrent_129 (kf fun w => q (t19.mpr w).1)
  refine BX13_isCurrent_8 e.o rfl rfl (by omega) (fun q2 => ?_) fun q2 => ?_
  · exact BX13_isCurrent_129 (kf fun w => q2 (by rw [t1, t2]; exact (t19.mpr w).2.1))
  rw [t1, t2] at q2
  refine BX13_isCurrent_22 e.o rfl ?_
  refine R_X13_byteAt e0 tp ok (by omega) ?_
  refine BX13_isCurrent_30 e.o rfl (by omega) ?_
  refine R_X13_byteAt e0 tp ok (by omega) ?_
  refine BX13_isCurrent_40 e.o rfl (by omega) ?_
  refine R_X13_byteAt e0 tp ok (by omega) ?_
  refine BX13_isCurrent_50 e.o rfl (by omega) ?_
  refine R_X13_byteAt e0 tp ok (by omega) ?_
  refine BX13_isCurrent_60 ?_
  refine R_X13_w4 ?_
  refine BX13_isCurrent_63 ?_
  refine R_X13_w4 ?_
  rw [t1]
  have y0 := byA_lo (p := tkS F p) ok (by omega) (by omega)
  have y1 := byA_lo (p := tkS F p + 1) ok (by omega) (by omega)
  have y2 := byA_lo (p := tkS F p + 2) ok (by omega) (by omega)
  have y3 := byA_lo (p := tkS F p + 3) ok (by omega) (by omega)
  have y4 := byA_lo (p := tkS F p + 4) ok (by omega) (by omega)
  have y5 := byA_lo (p := tkS F p + 5) ok (by omega) (by omega)
  have y6 := byA_lo (p := tkS F p + 6) ok (by omega) (by omega)
  have v1 := wC4_v y0.1 y0.2 y1.1 y1.2 y2.1 y2.2 y3.1 y3.2
  have v2 : wC4 99 117 114 114 = ((99 * 256 + 117) * 256 + 114) * 256 + 114 := wC4_v (by decide) (by decide) (by decide) (by decide) (by decide) (by decide) (by decide) (by decide)
  have v3 := wC3_v y4.1 y4.2 y5.1 y5.2 y6.1 y6.2
  have v4 : wC3 101 110 116 = (101 * 256 + 110) * 256 + 116 := wC3_v (by decide) (by decide) (by decide) (by decide) (by decide) (by decide)
  refine BX13_isCurrent_74 (fun q3 => ?_) fun q3 => ?_
  · exact BX13_isCurrent_129 (kf fun w => q3 (by have z := (t19.mpr w).2.2; rw [z.1, z.2.1, z.2.2.1, z.2.2.2.1]))
  refine BX13_isCurrent_78 e.o rfl (by omega) ?_
  refine R_X13_byteAt e0 tp ok (by omega) ?_
  refine BX13_isCurrent_88 e.o rfl (by omega) ?_
  refine R_X13_byteAt e0 tp ok (by omega) ?_
  refine BX13_isCurrent_98 e.o rfl (by omega) ?_
  refine R_X13_byteAt e0 tp ok (by omega) ?_
  refine BX13_isCurrent_109 ?_
  refine R_X13_w3 ?_
  refine BX13_isCurrent_112 ?_
  refine R_X13_w3 ?_
  rw [t1]
  refine BX13_isCurrent_121 (fun q4 => ?_) fun q4 => ?_
  · exact BX13_isCurrent_129 (kf fun w => q4 (by have z := (t19.mpr w).2.2; rw [z.2.2.2.2.1, z.2.2.2.2.2.1, z.2.2.2.2.2.2]))
  · refine BX13_isCurrent_125 (kt (t19.mp ⟨q, by omega, ?_⟩))
    rw [v1, v2] at q3
    rw [v3, v4] at q4
    refine ⟨?_, ?_, ?_, ?_, ?_, ?_, ?_⟩ <;> omega
def soZ (k : Int) : Int := if 16 ≤ k ∧ k ≤ 23 then k - 16 else -1
theorem R_X13_sortOf (s : IsY g h M b F p c) (ok : okF F) (p0 : 0 ≤ p) (p1 : p ≤ F 2) (k : Q (some (vI (soZ (tkK F p)))) h n) : Rn (d + 5) bc bs mX13_sortOf 0 [some (vR (some 301))] [] h n Q := by
  have e := s.1
  have t : TkR F p (M 0 9) (M 0 10) (M 0 11) := s.2.2.2.1.2.2
  have yes : ∀ v : Int, tkK F p = v → 16 ≤ v → v ≤ 23 → soZ (tkK F p) = v - 16 := fun v e a b => by rw [e]; exact if_pos ⟨a, b⟩
  refine BX13_sortOf_0 ?_
  refine R_X13_w5 ?_
  refine BX13_sortOf_14 e.o ?_
  refine R_X13_isWord e t wd_comes (fun q1 => ?_) fun q1 => ?_
  · rw [yes _ q1 (by decide) (by decide)] at k
    exact BX13_sortOf_17 (fun w => absurd w (by decide)) fun _ => BX13_sortOf_20 k
  refine BX13_sortOf_17 (fun _ => ?_) fun w => absurd rfl w
  refine BX13_sortOf_22 ?_
  refine R_X13_w5 ?_
  refine BX13_sortOf_36 e.o ?_
  refine R_X13_isWord e t wd_wears (fun q2 => ?_) fun q2 => ?_
  · rw [yes _ q2 (by decide) (by decide)] at k
    exact BX13_sortOf_39 (fun w => absurd w (by decide)) fun _ => BX13_sortOf_42 k
  refine BX13_sortOf_39 (fun _ => ?_) fun w => absurd rfl w
  refine BX13_sortOf_44 ?_
  refine R_X13_w6 ?_
  refine BX13_sortOf_60 e.o ?_
  refine R_X13_isWord e t wd_person (fun q3 => ?_) fun q3 => ?_
  · rw [yes _ q3 (by decide) (by decide)] at k
    exact BX13_sortOf_63 (fun w => absurd w (by decide)) fun _ => BX13_sortOf_66 k
  refine BX13_sortOf_63 (fun _ => ?_) fun w => absurd rfl w
  refine BX13_sortOf_68 e.o ?_
  refine R_X13_isCurrent s ok p0 p1 (fun q4 => ?_) fun q4 => ?_
  · rw [yes _ q4 (by decide) (by decide)] at k
    exact BX13_sortOf_72 (fun w => absurd w (by decide)) fun _ => BX13_sortOf_75 k
  refine BX13_sortOf_72 (fun _ => ?_) fun w => absurd rfl w
  refine BX13_sortOf_77 ?_
  refine R_X13_w4 ?_
  refine BX13_sortOf_89 e.o ?_
  refine R_X13_isWord e t wd_toss (fun q5 => ?_) fun q5 => ?_
  · rw [yes _ q5 (by decide) (by decide)] at k
    exact BX13_sortOf_92 (fun w => absurd w (by decide)) fun _ => BX13_sortOf_95 k
  refine BX13_sortOf_92 (fun _ => ?_) fun w => absurd rfl w
  refine BX13_sortOf_97 ?_
  refine R_X13_w4 ?_
  refine BX13_sortOf_109 e.o ?_
  refine R_X13_isWord e t wd_fish (fun q6 => ?_) fun q6 => ?_
  · rw [yes _ q6 (by decide) (by decide)] at k
    exact BX13_sortOf_112 (fun w => absurd w (by decide)) fun _ => BX13_sortOf_115 k
  refine BX13_sortOf_112 (fun _ => ?_) fun w => absurd rfl w
  refine BX13_sortOf_117 ?_
  refine R_X13_w5 ?_
  refine BX13_sortOf_131 e.o ?_
  refine R_X13_isWord e t wd_again (fun q7 => ?_) fun q7 => ?_
  · rw [yes _ q7 (by decide) (by decide)] at k
    exact BX13_sortOf_134 (fun w => absurd w (by decide)) fun _ => BX13_sortOf_137 k
  refine BX13_sortOf_134 (fun _ => ?_) fun w => absurd rfl w
  refine BX13_sortOf_142 ?_
  refine R_X13_w4 ?_
  refine BX13_sortOf_154 e.o ?_
  refine R_X13_isWord e t wd_tide (fun q8 => ?_) fun q8 => ?_
  · rw [yes _ q8 (by decide) (by decide)] at k
    exact BX13_sortOf_157 (fun w => absurd w (by decide)) fun _ => BX13_sortOf_160 k
  refine BX13_sortOf_157 (fun _ => ?_) fun w => absurd rfl w
  refine BX13_sortOf_165 ?_
  have no : soZ (tkK F p) = -1 := if_neg (by omega)
  rw [no] at k
  exact k
end BODY
