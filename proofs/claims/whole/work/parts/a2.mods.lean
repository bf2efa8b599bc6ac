/-! The reference's small methods and plain calls. -/
section MODS
variable {d bc bs n : Nat} {g h : aH} {Q : aQ} {W V : Int → Int → Int} {X : Int → Tx} {F B : Int → Int} {wr cm : Int}
theorem R_X13_isIn {x lo hi : Int} (k1 : lo ≤ x → x ≤ hi → Q (some (vI 1)) h n) (k0 : (x < lo ∨ hi < x) → Q (some (vI 0)) h n) : Rn d bc bs mX13_isIn 0 [some (vI x), some (vI lo), some (vI hi)] [] h n Q := by
  refine BX13_isIn_0  ?_ ?_
  · intro hc1
    refine BX13_isIn_14  ?_
    exact k0 (by omega)
  · intro hc2
    refine BX13_isIn_5  ?_ ?_
    · intro hc3
      refine BX13_isIn_14  ?_
      exact k0 (by omega)
    · intro hc4
      refine BX13_isIn_10  ?_
      exact k1 (by omega) (by omega)
theorem R_X13_isPlace {x : Int} (k1 : 0 ≤ x → x ≤ 9 → Q (some (vI 1)) h n) (k0 : (x < 0 ∨ 9 < x) → Q (some (vI 0)) h n) : Rn (d + 1) bc bs mX13_isPlace 0 [some (vI x)] [] h n Q := by
  refine BX13_isPlace_0  ?_
  refine R_X13_isIn  ?_ ?_
  · intro w1 w2
    refine BX13_isPlace_7 (by first | omega | (simp only [Ls_len]; omega) | assumption | exact Ls_get (by omega) (by omega) | rfl | decide) ?_
    first | exact k1 (by assumption) (by assumption) | exact k0 (by assumption)
  · intro w3
    refine BX13_isPlace_7 (by first | omega | (simp only [Ls_len]; omega) | assumption | exact Ls_get (by omega) (by omega) | rfl | decide) ?_
    first | exact k1 (by assumption) (by assumption) | exact k0 (by assumption)
theorem R_X13_isPerson {x : Int} (s : IsMo g h W V X F B wr cm) (k1 : 0 ≤ x → x < W 3 3 → Q (some (vI 1)) h n) (k0 : (x < 0 ∨ W 3 3 ≤ x) → Q (some (vI 0)) h n) : Rn (d + 1) bc bs mX13_isPerson 0 [some (vR (some 301)), some (vI x)] [] h n Q := by
  obtain ⟨M, e, ⟨⟨ts, te, ty, ⟨t1, t2, t3⟩, tp⟩, tb⟩, ⟨tv, tvb⟩, tx, ⟨⟨tt1, tt2, tt3⟩, tt4⟩, wr0, cm0, on⟩ := id s; obtain ⟨on1, on2, on3, on4, on5, on6, on7, on8⟩ := id on; have tt : tTp M F := ⟨⟨tt1, tt2, tt3⟩, tt4⟩; have m0 := e.o; have m1 := e.a1; have m2 := e.a2; have m3 := e.a3; have m4 := e.a4; have ts1 := ts.1; obtain ⟨te1, te2, te3, te4⟩ := id te; obtain ⟨⟨ty1, ty2, ty3, ty4, ty5⟩, ty6, ty7, ty8, ty9⟩ := id ty
  refine BX13_isPerson_0 (by first | assumption | exact up_at _ _ _ | (rw [up_ne (by omega)]; first | assumption | exact up_at _ _ _ | (rw [up_ne (by omega)]; assumption))) (by rfl) (by first | assumption | exact up_at _ _ _ | (rw [up_ne (by omega)]; first | assumption | exact up_at _ _ _ | (rw [up_ne (by omega)]; assumption))) (by first | exact Ls_get (by omega) (by omega) | assumption) (by first | omega | (simp only [Ls_len]; omega) | assumption | exact Ls_get (by omega) (by omega) | rfl | decide) ?_
  refine R_X13_isIn  ?_ ?_
  · intro w1 w2
    refine BX13_isPerson_13 (by first | omega | (simp only [Ls_len]; omega) | assumption | exact Ls_get (by omega) (by omega) | rfl | decide) ?_
    first | exact k1 (by assumption) (by omega) | exact k0 (by omega)
  · intro w3
    refine BX13_isPerson_13 (by first | omega | (simp only [Ls_len]; omega) | assumption | exact Ls_get (by omega) (by omega) | rfl | decide) ?_
    first | exact k1 (by assumption) (by omega) | exact k0 (by omega)
theorem R_X13_isBottle {x : Int} (s : IsMo g h W V X F B wr cm) (k1 : 0 ≤ x → x < W 1 72 → Q (some (vI 1)) h n) (k0 : (x < 0 ∨ W 1 72 ≤ x) → Q (some (vI 0)) h n) : Rn (d + 1) bc bs mX13_isBottle 0 [some (vR (some 301)), some (vI x)] [] h n Q := by
  obtain ⟨M, e, ⟨⟨ts, te, ty, ⟨t1, t2, t3⟩, tp⟩, tb⟩, ⟨tv, tvb⟩, tx, ⟨⟨tt1, tt2, tt3⟩, tt4⟩, wr0, cm0, on⟩ := id s; obtain ⟨on1, on2, on3, on4, on5, on6, on7, on8⟩ := id on; have tt : tTp M F := ⟨⟨tt1, tt2, tt3⟩, tt4⟩; have m0 := e.o; have m1 := e.a1; have m2 := e.a2; have m3 := e.a3; have m4 := e.a4; have ts1 := ts.1; obtain ⟨te1, te2, te3, te4⟩ := id te; obtain ⟨⟨ty1, ty2, ty3, ty4, ty5⟩, ty6, ty7, ty8, ty9⟩ := id ty
  refine BX13_isBottle_0 (by first | assumption | exact up_at _ _ _ | (rw [up_ne (by omega)]; first | assumption | exact up_at _ _ _ | (rw [up_ne (by omega)]; assumption))) (by rfl) (by first | assumption | exact up_at _ _ _ | (rw [up_ne (by omega)]; first | assumption | exact up_at _ _ _ | (rw [up_ne (by omega)]; assumption))) (by first | exact Ls_get (by omega) (by omega) | assumption) (by first | omega | (simp only [Ls_len]; omega) | assumption | exact Ls_get (by omega) (by omega) | rfl | decide) ?_
  refine R_X13_isIn  ?_ ?_
  · intro w1 w2
    refine BX13_isBottle_14 (by first | omega | (simp only [Ls_len]; omega) | assumption | exact Ls_get (by omega) (by omega) | rfl | decide) ?_
    first | exact k1 (by assumption) (by omega) | exact k0 (by omega)
  · intro w3
    refine BX13_isBottle_14 (by first | omega | (simp only [Ls_len]; omega) | assumption | exact Ls_get (by omega) (by omega) | rfl | decide) ?_
    first | exact k1 (by assumption) (by omega) | exact k0 (by omega)
theorem R_X13_get {b w : Int} (s : IsMo g h W V X F B wr cm) (b0 : 0 ≤ b) (b1 : b < W 1 72) (w0 : 0 ≤ w) (w1 : w < 6) (k : Q (some (vI (W 1 (b * 6 + w)))) h n) : Rn d bc bs mX13_get 0 [some (vR (some 301)), some (vI b), some (vI w)] [] h n Q := by
  obtain ⟨M, e, ⟨⟨ts, te, ty, ⟨t1, t2, t3⟩, tp⟩, tb⟩, ⟨tv, tvb⟩, tx, ⟨⟨tt1, tt2, tt3⟩, tt4⟩, wr0, cm0, on⟩ := id s; obtain ⟨on1, on2, on3, on4, on5, on6, on7, on8⟩ := id on; have tt : tTp M F := ⟨⟨tt1, tt2, tt3⟩, tt4⟩; have m0 := e.o; have m1 := e.a1; have m2 := e.a2; have m3 := e.a3; have m4 := e.a4; have ts1 := ts.1; obtain ⟨te1, te2, te3, te4⟩ := id te; obtain ⟨⟨ty1, ty2, ty3, ty4, ty5⟩, ty6, ty7, ty8, ty9⟩ := id ty
  have q := te4 b w b0 b1 w0 w1
  refine BX13_get_0 (by first | assumption | exact up_at _ _ _ | (rw [up_ne (by omega)]; first | assumption | exact up_at _ _ _ | (rw [up_ne (by omega)]; assumption))) (by rfl) (by first | omega | (simp only [Ls_len]; omega) | assumption | exact Ls_get (by omega) (by omega) | rfl | decide) (by first | omega | (simp only [Ls_len]; omega) | assumption | exact Ls_get (by omega) (by omega) | rfl | decide) (by first | omega | (simp only [Ls_len]; omega) | assumption | exact Ls_get (by omega) (by omega) | rfl | decide) (by first | assumption | exact up_at _ _ _ | (rw [up_ne (by omega)]; first | assumption | exact up_at _ _ _ | (rw [up_ne (by omega)]; assumption))) (by first | omega | (simp only [Ls_len]; omega) | assumption | exact Ls_get (by omega) (by omega) | rfl | decide) (by first | exact Ls_get (by omega) (by omega) | assumption) ?_
  (rw [q]; exact k)
theorem R_X13_own {p w : Int} (s : IsMo g h W V X F B wr cm) (p0 : 0 ≤ p) (p1 : p < W 3 3) (w0 : 0 ≤ w) (w1 : w ≤ 1) (k0 : w = 0 → Q (some (vI (W 0 p))) h n) (k1 : w = 1 → Q (some (vI (W 5 p))) h n) : Rn d bc bs mX13_own 0 [some (vR (some 301)), some (vI p), some (vI w)] [] h n Q := by
  obtain ⟨M, e, ⟨⟨ts, te, ty, ⟨t1, t2, t3⟩, tp⟩, tb⟩, ⟨tv, tvb⟩, tx, ⟨⟨tt1, tt2, tt3⟩, tt4⟩, wr0, cm0, on⟩ := id s; obtain ⟨on1, on2, on3, on4, on5, on6, on7, on8⟩ := id on; have tt : tTp M F := ⟨⟨tt1, tt2, tt3⟩, tt4⟩; have m0 := e.o; have m1 := e.a1; have m2 := e.a2; have m3 := e.a3; have m4 := e.a4; have ts1 := ts.1; obtain ⟨te1, te2, te3, te4⟩ := id te; obtain ⟨⟨ty1, ty2, ty3, ty4, ty5⟩, ty6, ty7, ty8, ty9⟩ := id ty
  have q := ts.2.1 p p0 p1
  refine BX13_own_0 (by first | assumption | exact up_at _ _ _ | (rw [up_ne (by omega)]; first | assumption | exact up_at _ _ _ | (rw [up_ne (by omega)]; assumption))) (by rfl) (by first | omega | (simp only [Ls_len]; omega) | assumption | exact Ls_get (by omega) (by omega) | rfl | decide) (by first | omega | (simp only [Ls_len]; omega) | assumption | exact Ls_get (by omega) (by omega) | rfl | decide) (by first | omega | (simp only [Ls_len]; omega) | assumption | exact Ls_get (by omega) (by omega) | rfl | decide) (by first | assumption | exact up_at _ _ _ | (rw [up_ne (by omega)]; first | assumption | exact up_at _ _ _ | (rw [up_ne (by omega)]; assumption))) (by first | omega | (simp only [Ls_len]; omega) | assumption | exact Ls_get (by omega) (by omega) | rfl | decide) (by first | exact Ls_get (by omega) (by omega) | assumption) ?_
  by_cases q0 : w = 0
  · rw [show 83 + 2 * p + w = 83 + 2 * p by omega, q.1]; exact k0 q0
  · rw [show 83 + 2 * p + w = 83 + 2 * p + 1 by omega, q.2]; exact k1 (by omega)
theorem R_X13_ownP {p : Int} (s : IsMo g h W V X F B wr cm) (p0 : 0 ≤ p) (p1 : p < W 3 3) (k : Q (some (vI (W 0 p))) h n) : Rn d bc bs mX13_own 0 [some (vR (some 301)), some (vI p), some (vI 0)] [] h n Q := R_X13_own s p0 p1 (by decide) (by decide) (fun _ => k) (fun q => absurd q (by decide))
theorem R_X13_ownL {p : Int} (s : IsMo g h W V X F B wr cm) (p0 : 0 ≤ p) (p1 : p < W 3 3) (k : Q (some (vI (W 5 p))) h n) : Rn d bc bs mX13_own 0 [some (vR (some 301)), some (vI p), some (vI 1)] [] h n Q := R_X13_own s p0 p1 (by decide) (by decide) (fun q => absurd q (by decide)) (fun _ => k)
theorem R_X13_isAfloat {x : Int} (s : IsMo g h W V X F B wr cm) (k1 : 0 ≤ x → x < W 1 72 → W 1 (x * 6 + 4) = 0 → Q (some (vI 1)) h n) (k0 : ¬((0 ≤ x ∧ x < W 1 72) ∧ W 1 (x * 6 + 4) = 0) → Q (some (vI 0)) h n) : Rn (d + 2) bc bs mX13_isAfloat 0 [some (vR (some 301)), some (vI x)] [] h n Q := by
  obtain ⟨M, e, ⟨⟨ts, te, ty, ⟨t1, t2, t3⟩, tp⟩, tb⟩, ⟨tv, tvb⟩, tx, ⟨⟨tt1, tt2, tt3⟩, tt4⟩, wr0, cm0, on⟩ := id s; obtain ⟨on1, on2, on3, on4, on5, on6, on7, on8⟩ := id on; have tt : tTp M F := ⟨⟨tt1, tt2, tt3⟩, tt4⟩; have m0 := e.o; have m1 := e.a1; have m2 := e.a2; have m3 := e.a3; have m4 := e.a4; have ts1 := ts.1; obtain ⟨te1, te2, te3, te4⟩ := id te; obtain ⟨⟨ty1, ty2, ty3, ty4, ty5⟩, ty6, ty7, ty8, ty9⟩ := id ty
  refine BX13_isAfloat_0 (by first | assumption | exact up_at _ _ _ | (rw [up_ne (by omega)]; first | assumption | exact up_at _ _ _ | (rw [up_ne (by omega)]; assumption))) ?_
  refine R_X13_isBottle (by first | omega | (simp only [Ls_len]; omega) | assumption | exact Ls_get (by omega) (by omega) | rfl | decide) ?_ ?_
  · intro w1 w2
    refine BX13_isAfloat_5  ?_ ?_
    · intro hc1
      exact absurd hc1 (by decide)
    · intro hc2
      refine BX13_isAfloat_8 (by first | assumption | exact up_at _ _ _ | (rw [up_ne (by omega)]; first | assumption | exact up_at _ _ _ | (rw [up_ne (by omega)]; assumption))) ?_
      refine R_X13_get (by first | omega | (simp only [Ls_len]; omega) | assumption | exact Ls_get (by omega) (by omega) | rfl | decide) (by first | omega | (simp only [Ls_len]; omega) | assumption | exact Ls_get (by omega) (by omega) | rfl | decide) (by first | omega | (simp only [Ls_len]; omega) | assumption | exact Ls_get (by omega) (by omega) | rfl | decide) (by first | omega | (simp only [Ls_len]; omega) | assumption | exact Ls_get (by omega) (by omega) | rfl | decide) (by first | omega | (simp only [Ls_len]; omega) | assumption | exact Ls_get (by omega) (by omega) | rfl | decide) ?_
      refine BX13_isAfloat_14  ?_ ?_
      · intro hc3
        refine BX13_isAfloat_21  ?_
        exact k0 (by omega)
      · intro hc4
        refine BX13_isAfloat_17  ?_
        exact k1 (by omega) (by omega) (by omega)
  · intro w3
    refine BX13_isAfloat_5  ?_ ?_
    · intro hc5
      refine BX13_isAfloat_21  ?_
      exact k0 (by omega)
    · intro hc6
      exact absurd hc6 (by decide)
theorem R_X13_flowsTo {t p : Int} (s : IsMo g h W V X F B wr cm) (t0 : 0 ≤ t) (p0 : 0 ≤ p) (p1 : p ≤ 9) (k : Q (some (vI (lead (W 6) t p))) h n) : Rn d bc bs mX13_flowsTo 0 [some (vR (some 301)), some (vI t), some (vI p)] [] h n Q := by
  obtain ⟨M, e, ⟨⟨ts, te, ty, ⟨t1, t2, t3⟩, tp⟩, tb⟩, ⟨tv, tvb⟩, tx, ⟨⟨tt1, tt2, tt3⟩, tt4⟩, wr0, cm0, on⟩ := id s; obtain ⟨on1, on2, on3, on4, on5, on6, on7, on8⟩ := id on; have tt : tTp M F := ⟨⟨tt1, tt2, tt3⟩, tt4⟩; have m0 := e.o; have m1 := e.a1; have m2 := e.a2; have m3 := e.a3; have m4 := e.a4; have ts1 := ts.1; obtain ⟨te1, te2, te3, te4⟩ := id te; obtain ⟨⟨ty1, ty2, ty3, ty4, ty5⟩, ty6, ty7, ty8, ty9⟩ := id ty
  have q := ts.2.2 (t % 3) p (by omega) (by omega) p0 p1
  refine BX13_flowsTo_0 (by first | assumption | exact up_at _ _ _ | (rw [up_ne (by omega)]; first | assumption | exact up_at _ _ _ | (rw [up_ne (by omega)]; assumption))) (by rfl) (by first | omega | (simp only [Ls_len]; omega) | assumption | exact Ls_get (by omega) (by omega) | rfl | decide) (by first | omega | (simp only [Ls_len]; omega) | assumption | exact Ls_get (by omega) (by omega) | rfl | decide) (by first | omega | (simp only [Ls_len]; omega) | assumption | exact Ls_get (by omega) (by omega) | rfl | decide) (by first | omega | (simp only [Ls_len]; omega) | assumption | exact Ls_get (by omega) (by omega) | rfl | decide) (by first | assumption | exact up_at _ _ _ | (rw [up_ne (by omega)]; first | assumption | exact up_at _ _ _ | (rw [up_ne (by omega)]; assumption))) (by first | omega | (simp only [Ls_len]; omega) | assumption | exact Ls_get (by omega) (by omega) | rfl | decide) (by first | exact Ls_get (by omega) (by omega) | assumption) ?_
  (rw [q]; exact k)
theorem M_told {t p : Int} (s : IsMo g h W V X F B wr cm) (k : ∀ h1, IsMo g h1 W V X F B wr cm → Q (some (vI (aTold W t p))) h1 n) : Rn (d + 30) bc bs mX13_told 0 [some (vR (some 301)), some (vI t), some (vI p)] [] h n Q := by
  obtain ⟨M, e, ⟨⟨ts, te, ty, ⟨t1, t2, t3⟩, tp⟩, tb⟩, ⟨tv, tvb⟩, tx, ⟨⟨tt1, tt2, tt3⟩, tt4⟩, wr0, cm0, on⟩ := id s; obtain ⟨on1, on2, on3, on4, on5, on6, on7, on8⟩ := id on; have tt : tTp M F := ⟨⟨tt1, tt2, tt3⟩, tt4⟩; have m0 := e.o; have m1 := e.a1; have m2 := e.a2; have m3 := e.a3; have m4 := e.a4; have ts1 := ts.1; obtain ⟨te1, te2, te3, te4⟩ := id te; obtain ⟨⟨ty1, ty2, ty3, ty4, ty5⟩, ty6, ty7, ty8, ty9⟩ := id ty
  unfold aTold at k
  refine BX13_told_0  ?_
  refine R_X13_isIn  ?_ ?_
  · intro w1 w2
    refine BX13_told_6  ?_ ?_
    · intro hc1
      exact absurd hc1 (by decide)
    · intro hc2
      refine BX13_told_9  ?_
      refine R_X13_isPlace  ?_ ?_
      · intro w1 w2
        refine BX13_told_13  ?_ ?_
        · intro hc3
          exact absurd hc3 (by decide)
        · intro hc4
          refine BX13_told_16 (by first | assumption | exact up_at _ _ _ | (rw [up_ne (by omega)]; first | assumption | exact up_at _ _ _ | (rw [up_ne (by omega)]; assumption))) ?_
          refine R_X13_flowsTo (by first | omega | (simp only [Ls_len]; omega) | assumption | exact Ls_get (by omega) (by omega) | rfl | decide) (by first | omega | (simp only [Ls_len]; omega) | assumption | exact Ls_get (by omega) (by omega) | rfl | decide) (by first | omega | (simp only [Ls_len]; omega) | assumption | exact Ls_get (by omega) (by omega) | rfl | decide) (by first | omega | (simp only [Ls_len]; omega) | assumption | exact Ls_get (by omega) (by omega) | rfl | decide) ?_
          refine BX13_told_22  ?_
          (rw [if_pos (by omega)] at k; unfold lead; rw [show t % 3 = t by omega]; exact k _ s)
      · intro w3
        refine BX13_told_13  ?_ ?_
        · intro hc5
          refine BX13_told_25  ?_
          (rw [if_neg (by omega)] at k; exact k _ s)
        · intro hc6
          exact absurd hc6 (by decide)
  · intro w3
    refine BX13_told_6  ?_ ?_
    · intro hc7
      refine BX13_told_25  ?_
      (rw [if_neg (by omega)] at k; exact k _ s)
    · intro hc8
      exact absurd hc8 (by decide)
theorem M_fault {x : Int} (s : IsMo g h W V X F B wr cm) (k : ∀ h1, IsMo g h1 W V X F B wr cm → Q (some (vI (aFault F x))) h1 n) : Rn (d + 30) bc bs mX13_fault 0 [some (vR (some 301)), some (vI x)] [] h n Q := by
  obtain ⟨M, e, ⟨⟨ts, te, ty, ⟨t1, t2, t3⟩, tp⟩, tb⟩, ⟨tv, tvb⟩, tx, ⟨⟨tt1, tt2, tt3⟩, tt4⟩, wr0, cm0, on⟩ := id s; obtain ⟨on1, on2, on3, on4, on5, on6, on7, on8⟩ := id on; have tt : tTp M F := ⟨⟨tt1, tt2, tt3⟩, tt4⟩; have m0 := e.o; have m1 := e.a1; have m2 := e.a2; have m3 := e.a3; have m4 := e.a4; have ts1 := ts.1; obtain ⟨te1, te2, te3, te4⟩ := id te; obtain ⟨⟨ty1, ty2, ty3, ty4, ty5⟩, ty6, ty7, ty8, ty9⟩ := id ty
  unfold aFault at k
  refine BX13_fault_0  ?_ ?_
  · intro hc1
    refine BX13_fault_11  ?_ ?_
    · intro hc2
      refine BX13_fault_23  ?_
      (rw [if_neg (by omega), if_neg (by omega)] at k; exact k _ s)
    · intro hc3
      refine BX13_fault_16 (by first | assumption | exact up_at _ _ _ | (rw [up_ne (by omega)]; first | assumption | exact up_at _ _ _ | (rw [up_ne (by omega)]; assumption))) (by rfl) ?_
      (rw [if_neg (by omega), if_pos (by omega)] at k; rw [tt3]; exact k _ s)
  · intro hc4
    refine BX13_fault_4 (by first | assumption | exact up_at _ _ _ | (rw [up_ne (by omega)]; first | assumption | exact up_at _ _ _ | (rw [up_ne (by omega)]; assumption))) (by rfl) ?_
    (rw [if_pos (by omega)] at k; rw [tt2]; exact k _ s)
theorem M_about {x : Int} (s : IsMo g h W V X F B wr cm) (k : ∀ h1, IsMo g h1 W V X F B wr cm → Q (some (vI (aAbout W F x))) h1 n) : Rn (d + 30) bc bs mX13_about 0 [some (vR (some 301)), some (vI x)] [] h n Q := by
  obtain ⟨M, e, ⟨⟨ts, te, ty, ⟨t1, t2, t3⟩, tp⟩, tb⟩, ⟨tv, tvb⟩, tx, ⟨⟨tt1, tt2, tt3⟩, tt4⟩, wr0, cm0, on⟩ := id s; obtain ⟨on1, on2, on3, on4, on5, on6, on7, on8⟩ := id on; have tt : tTp M F := ⟨⟨tt1, tt2, tt3⟩, tt4⟩; have m0 := e.o; have m1 := e.a1; have m2 := e.a2; have m3 := e.a3; have m4 := e.a4; have ts1 := ts.1; obtain ⟨te1, te2, te3, te4⟩ := id te; obtain ⟨⟨ty1, ty2, ty3, ty4, ty5⟩, ty6, ty7, ty8, ty9⟩ := id ty
  unfold aAbout at k
  refine BX13_about_0  ?_
  refine R_X13_isIn  ?_ ?_
  · intro w1 w2
    refine BX13_about_7  ?_ ?_
    · intro hc1
      exact absurd hc1 (by decide)
    · intro hc2
      refine BX13_about_10 (by first | assumption | exact up_at _ _ _ | (rw [up_ne (by omega)]; first | assumption | exact up_at _ _ _ | (rw [up_ne (by omega)]; assumption))) (by rfl) (by first | assumption | exact up_at _ _ _ | (rw [up_ne (by omega)]; first | assumption | exact up_at _ _ _ | (rw [up_ne (by omega)]; assumption))) (by first | omega | (simp only [Ls_len]; omega) | assumption | exact Ls_get (by omega) (by omega) | rfl | decide) (by first | exact Ls_get (by omega) (by omega) | assumption) ?_
      by_cases q0 : x = 0
      · subst q0; rw [if_pos rfl] at k; rw [ts1]; exact k _ s
      rw [if_neg q0] at k
      by_cases q1 : x = 1
      · subst q1; rw [if_pos rfl] at k; rw [t1]; exact k _ s
      rw [if_neg q1] at k
      by_cases q2 : x = 2
      · subst q2; rw [if_pos rfl] at k; rw [t2]; exact k _ s
      rw [if_neg q2] at k
      by_cases q3 : x = 3
      · subst q3; rw [if_pos rfl] at k; rw [t3]; exact k _ s
      rw [if_neg q3] at k
      by_cases q4 : x = 4
      · subst q4; rw [if_pos rfl] at k; rw [ty1]; exact k _ s
      rw [if_neg q4] at k
      by_cases q5 : x = 5
      · subst q5; rw [if_pos rfl] at k; rw [ty2]; exact k _ s
      rw [if_neg q5] at k
      have q6 : x = 6 := by omega
      subst q6; rw [if_pos rfl] at k; rw [ty3]; exact k _ s
  · intro w3
    refine BX13_about_7  ?_ ?_
    · intro hc3
      refine BX13_about_19  ?_ ?_
      · intro hc4
        refine BX13_about_32  ?_
        (rw [if_neg (by omega), if_neg (by omega), if_neg (by omega), if_neg (by omega), if_neg (by omega), if_neg (by omega), if_neg (by omega), if_neg (by omega)] at k; exact k _ s)
      · intro hc5
        refine BX13_about_25 (by first | assumption | exact up_at _ _ _ | (rw [up_ne (by omega)]; first | assumption | exact up_at _ _ _ | (rw [up_ne (by omega)]; assumption))) (by rfl) ?_
        (rw [if_neg (by omega), if_neg (by omega), if_neg (by omega), if_neg (by omega), if_neg (by omega), if_neg (by omega), if_neg (by omega), if_pos (by omega)] at k; rw [tt1]; exact k _ s)
    · intro hc6
      exact absurd hc6 (by decide)
end MODS
