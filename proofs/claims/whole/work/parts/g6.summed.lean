/-! The reference's reading of a law, step by step, to its end. -/
theorem endZ_c (F : Int → Int) (p : Int) (P : List Int) (o : Int) (c : Em) : (endZ F p P o c).1 = 0 ∨ (endZ F p P o c).1 = 1 := by
  unfold endZ
  split
  · split
    · exact .inl rfl
    · exact .inr rfl
  · exact .inl rfl
theorem opZ_c (F : Int → Int) (x p : Int) (P : List Int) (o : Int) (c : Em) : (opZ F x p P o c).1 = 0 ∨ (opZ F x p P o c).1 = 3 := by
  unfold opZ
  split
  · exact .inr rfl
  · exact .inl rfl
theorem begZ_c (F : Int → Int) (iw p : Int) (P : List Int) (o : Int) (c : Em) : 0 ≤ (begZ F iw p P o c).1 := by
  have e1 := endZ_c F (tkN F p) P o (c ++ [(0, tkV F p)])
  have e2 := endZ_c F (tkN F p) P o (c ++ [(1, tkK F p - 23)])
  have q1 := opZ_c F 40 p P o c
  have q2 := opZ_c F 5 p P o c
  have q3 := opZ_c F 41 p P o c
  have q4 := opZ_c F 2 p P o c
  have q5 := opZ_c F 42 p P o c
  have q6 := opZ_c F 20 p P o c
  unfold begZ
  split
  · show (0 : Int) ≤ 2; decide
  · split
    · show (0 : Int) ≤ 5; decide
    · split
      · omega
      · split
        · omega
        · split
          · omega
          · split
            · omega
            · split
              · omega
              · split
                · omega
                · split
                  · omega
                  · split
                    · omega
                    · show (0 : Int) ≤ 1; decide
theorem behZ_c (F : Int → Int) (p : Int) (P : List Int) (o : Int) (c : Em) : -1 ≤ (behZ F p P o c).1 ∧ ((behZ F p P o c).1 = -1 → (behZ F p P o c).2 = (p, P, o, 1, c)) := by
  unfold behZ
  split
  · exact ⟨by show (-1 : Int) ≤ 0; decide, fun q => absurd q (by show ¬ (0 : Int) = -1; decide)⟩
  · split
    · exact ⟨Int.le_refl _, fun _ => rfl⟩
    · split
      · have e := endZ_c F (tkN F p) (seZ 1 P o c).1.tail ((seZ 1 P o c).2.1 - 1) (if opN P = 44 then (seZ 1 P o c).2.2 ++ [(3, 0)] else (seZ 1 P o c).2.2)
        exact ⟨by omega, fun q => by omega⟩
      · exact ⟨by show (-1 : Int) ≤ 0; decide, fun q => absurd q (by show ¬ (0 : Int) = -1; decide)⟩
section SUMMED
variable {d bc bs n pc : Nat} {g h h1 : aH} {Q : aQ} {M M1 : Int → Int → Int} {F : Int → Int} {b p o w x o2 w2 iw : Int} {P P2 : List Int} {c : Em}
theorem R_X13_beginOne {l1 : Option aV} (s : IsZ g h M b F (p, P, o, 0, c)) (hiw : M 0 14 = iw) (ok : okF F) (b0 : 0 ≤ b) (b1 : b ≤ 2115) (z : okZs F (p, P, o, 0, c)) (k : ∀ h1 M1, IsZ g h1 M1 b F (begZ F iw p P o c).2 → Kb M M1 (b + 97) → Q (some (vI (begZ F iw p P o c).1)) h1 n) : Rn (d + 6) bc bs mX13_beginOne 0 [some (vR (some 301)), l1] [] h n Q := by
  have e := s.1.1
  have t : TkR F p (M 0 9) (M 0 10) (M 0 11) := s.1.2.2.2.1.2.2
  obtain ⟨⟨z1, z2⟩, ⟨z3, z4⟩, z5, z6⟩ := z
  dsimp only at z1 z2 z3 z4 z5 z6
  obtain ⟨_, t2, _, _, _, _, _, t10, _, _, t13, _⟩ := wk_sg t
  have tn := t.2.2.1
  have n1 := tkN_in ok z1 z2
  have opn : ∀ (x : Int) (pc : Nat), begZ F iw p P o c = opZ F x p P o c → (∀ h1 M1, IsZ g h1 M1 b F (opZ F x p P o c).2 → Kb M M1 (b + 97) → Q (some (vI (opZ F x p P o c).1)) h1 n) := fun x _ eb h1 M1 s1 k1 => by rw [← eb]; rw [← eb] at s1; exact k h1 M1 s1 k1
  have K20 : ¬ (tkK F p = 2 ∧ 9999 < tkV F p) → ∀ l1, Rn (d + 6) bc bs mX13_beginOne 20 [some (vR (some 301)), l1] [] h n Q := by
    intro k2 l1
    refine BX13_beginOne_20 e.o ?_
    refine R_X13_nameOf e t ?_
    have nm0 : 23 ≤ tkK F p ∧ tkK F p ≤ 30 → nmZ (tkK F p) = tkK F p - 23 := fun w => if_pos w
    have nm1 : ¬ (23 ≤ tkK F p ∧ tkK F p ≤ 30) → nmZ (tkK F p) = -1 := fun w => if_neg w
    have bz : begZ F iw p P o c = if tkK F p = 2 ∧ 9999 < tkV F p then (2, (p, P, o, 0, c)) else if tkK F p = 30 ∧ iw ≠ 0 then (5, (p, P, o, 0, c)) else if tkK F p = 2 then endZ F (tkN F p) P o (c ++ [(0, tkV F p)]) else if 23 ≤ tkK F p ∧ tkK F p ≤ 30 then endZ F (tkN F p) P o (c ++ [(1, tkK F p - 23)]) else if tkK F p = 13 then opZ F 40 p P o c else if tkK F p = 10 then opZ F 5 p P o c else if tkK F p = 32 then opZ F 41 p P o c else if tkK F p = 34 then opZ F 2 p P o c else if tkK F p = 35 then opZ F 42 p P o c else if tkK F p = 41 ∧ askB P = true then opZ F 20 p P o c else (1, (p, P, o, 0, c)) := rfl
    rw [if_neg k2] at bz
    have K40 : ¬ (tkK F p = 30 ∧ iw ≠ 0) → Rn (d + 6) bc bs mX13_beginOne 40 [some (vR (some 301)), some (vI (nmZ (tkK F p)))] [] h n Q := by
      intro k30
      rw [if_neg k30] at bz
      have K94 : tkK F p ≠ 2 → ¬ (23 ≤ tkK F p ∧ tkK F p ≤ 30) → Rn (d + 6) bc bs mX13_beginOne 94 [some (vR (some 301)), some (vI (nmZ (tkK F p)))] [] h n Q := by
        intro kn2 kn
        rw [if_neg kn2, if_neg kn] at bz
        refine BX13_beginOne_94 e.o rfl (fun q1 => ?_) fun q1 => ?_
        rotate_left
        · rw [if_pos (t13.mp q1)] at bz
          refine BX13_beginOne_103 e.o ?_
          refine R_X13_opened s ok z1 z2 z4 z5 z6 fun h1 M1 s1 k1 => ?_
          exact BX13_beginOne_109 (opn 40 0 bz h1 M1 s1 k1)
        rw [if_neg (fun w => q1 (t13.mpr w))] at bz
        refine BX13_beginOne_110 e.o rfl (fun q2 => ?_) fun q2 => ?_
        rotate_left
        · rw [if_pos (t10.mp q2)] at bz
          refine BX13_beginOne_119 e.o ?_
          refine R_X13_opened s ok z1 z2 z4 z5 z6 fun h1 M1 s1 k1 => ?_
          exact BX13_beginOne_124 (opn 5 0 bz h1 M1 s1 k1)
        rw [if_neg (fun w => q2 (t10.mpr w))] at bz
        refine BX13_beginOne_125 ?_
        refine R_X13_w5 ?_
        refine BX13_beginOne_139 e.o ?_
        refine R_X13_isWord e t wd_later (fun q3 => ?_) fun q3 => ?_
        · rw [if_pos q3] at bz
          refine BX13_beginOne_142 (fun w => absurd w (by decide)) fun _ => ?_
          refine BX13_beginOne_145 e.o ?_
          refine R_X13_opened s ok z1 z2 z4 z5 z6 fun h1 M1 s1 k1 => ?_
          exact BX13_beginOne_151 (opn 41 0 bz h1 M1 s1 k1)
        rw [if_neg q3] at bz
        refine BX13_beginOne_142 (fun _ => ?_) fun w => absurd rfl w
        refine BX13_beginOne_152 ?_
        refine R_X13_w6 ?_
        refine BX13_beginOne_168 e.o ?_
        refine R_X13_isWord e t wd_places (fun q4 => ?_) fun q4 => ?_
        · rw [if_pos q4] at bz
          refine BX13_beginOne_171 (fun w => absurd w (by decide)) fun _ => ?_
          refine BX13_beginOne_174 e.o ?_
          refine R_X13_opened s ok z1 z2 z4 z5 z6 fun h1 M1 s1 k1 => ?_
          exact BX13_beginOne_179 (opn 2 0 bz h1 M1 s1 k1)
        rw [if_neg q4] at bz
        refine BX13_beginOne_171 (fun _ => ?_) fun w => absurd rfl w
        refine BX13_beginOne_180 ?_
        refine R_X13_w2 ?_
        refine BX13_beginOne_188 e.o ?_
        refine R_X13_isWord e t wd_if (fun q5 => ?_) fun q5 => ?_
        · rw [if_pos q5] at bz
          refine BX13_beginOne_191 (fun w => absurd w (by decide)) fun _ => ?_
          refine BX13_beginOne_194 e.o ?_
          refine R_X13_opened s ok z1 z2 z4 z5 z6 fun h1 M1 s1 k1 => ?_
          exact BX13_beginOne_200 (opn 42 0 bz h1 M1 s1 k1)
        rw [if_neg q5] at bz
        refine BX13_beginOne_191 (fun _ => ?_) fun w => absurd rfl w
        refine BX13_beginOne_201 ?_
        refine R_X13_w3 ?_
        refine BX13_beginOne_211 e.o ?_
        have bad : ¬ (tkK F p = 41 ∧ askB P = true) → Rn (d + 6) bc bs mX13_beginOne 233 [some (vR (some 301)), some (vI (nmZ (tkK F p)))] [] h n Q := by
          intro q6
          rw [if_neg q6] at bz
          rw [bz] at k
          exact BX13_beginOne_233 (k h M s Kb.rf)
        refine R_X13_isWord e t wd_not (fun q6 => ?_) fun q6 => ?_
        · refine BX13_beginOne_214 (fun w => absurd w (by decide)) fun _ => ?_
          refine BX13_beginOne_217 e.o ?_
          refine R_X13_isAskAhead s (by omega) (fun qa => ?_) fun qa => ?_
          · rw [if_pos ⟨q6, qa⟩] at bz
            refine BX13_beginOne_221 (fun w => absurd w (by decide)) fun _ => ?_
            refine BX13_beginOne_224 e.o ?_
            refine R_X13_opened s ok z1 z2 z4 z5 z6 fun h1 M1 s1 k1 => ?_
            exact BX13_beginOne_230 (opn 20 0 bz h1 M1 s1 k1)
          · exact BX13_beginOne_221 (fun _ => bad fun w => by rw [qa] at w; cases w.2) fun w => absurd rfl w
        · exact BX13_beginOne_214 (fun _ => bad fun w => q6 w.1) fun w => absurd rfl w
      have K85 : ∀ (x v : Int), begZ F iw p P o c = endZ F (tkN F p) P o (c ++ [(x, v)]) → ∀ h1 M1, IsZ g h1 M1 b F (p, P, o, 0, c ++ [(x, v)]) → Kb M M1 (b + 97) → Rn (d + 6) bc bs mX13_beginOne 85 [some (vR (some 301)), some (vI (nmZ (tkK F p)))] [] h1 n Q := by
        intro x v eb h1 M1 s1 k1
        refine BX13_beginOne_85 s1.1.1.o ?_
        refine R_nextZ s1 ok z1 z2 fun h2 M2 s2 k2 => ?_
        refine BX13_beginOne_89 s2.1.1.o ?_
        refine R_X13_endOne s2 ok b0 b1 n1.1 n1.2 z4 (by rw [List.length_append, List.length_singleton]; omega) (by omega) (by omega) fun h3 M3 s3 k3 => ?_
        rw [eb] at k
        exact BX13_beginOne_93 (k h3 M3 s3 ((k1.tr k2).tr k3))
      refine BX13_beginOne_40 e.o rfl (fun q1 => ?_) fun q1 => ?_
      · have k2 : tkK F p = 2 := t2.mp q1
        rw [if_pos k2] at bz
        have tv : M 0 10 = tkV F p := by have := tn k2; omega
        refine BX13_beginOne_52 e.o rfl (fun w => absurd q1 w) fun _ => ?_
        refine BX13_beginOne_61 e.o rfl (fun w => absurd q1 w) fun _ => ?_
        refine BX13_beginOne_74 e.o rfl e.o ?_
        rw [tv]
        refine R_X13_emit s b0 b1 (by omega) fun h1 M1 s1 k1 _ => ?_
        exact K85 0 _ bz h1 M1 s1 k1
      · have k2 : tkK F p ≠ 2 := fun w => q1 (t2.mpr w)
        refine BX13_beginOne_48 (fun q2 => ?_) fun q2 => ?_
        · exact K94 k2 fun w => by have := nm0 w; omega
        · have kn : 23 ≤ tkK F p ∧ tkK F p ≤ 30 := by
            refine Decidable.byContradiction fun w => ?_
            have := nm1 w
            omega
          rw [if_neg k2, if_pos kn] at bz
          refine BX13_beginOne_52 e.o rfl (fun _ => ?_) fun w => absurd w q1
          refine BX13_beginOne_65 e.o rfl (fun _ => ?_) fun w => absurd w q1
          refine BX13_beginOne_81 e.o ?_
          refine R_X13_emit s b0 b1 (by omega) fun h1 M1 s1 k1 _ => ?_
          rw [nm0 kn] at s1
          exact K85 1 _ bz h1 M1 s1 k1
    refine BX13_beginOne_24 (fun q7 => ?_) fun q7 => ?_
    · exact K40 fun w => q7 (by have := nm0 (by omega); omega)
    · have k30 : tkK F p = 30 := by
        by_cases w : 23 ≤ tkK F p ∧ tkK F p ≤ 30
        · have := nm0 w; omega
        · have := nm1 w; omega
      refine BX13_beginOne_31 e.o rfl (fun qi => ?_) fun qi => ?_
      · exact K40 fun w => w.2 (by rw [← hiw]; exact qi)
      · rw [if_pos ⟨k30, by rw [← hiw]; exact qi⟩] at bz
        rw [bz] at k
        exact BX13_beginOne_38 (k h M s Kb.rf)
  refine BX13_beginOne_0 e.o rfl (fun q1 => ?_) fun q1 => ?_
  · exact K20 (fun w => q1 (t2.mpr w.1)) _
  · have k2 : tkK F p = 2 := t2.mp q1
    have tv := tn k2
    refine BX13_beginOne_8 e.o rfl (fun q2 => ?_) fun q2 => ?_
    · exact K20 (fun w => by omega) _
    · have bz : begZ F iw p P o c = (2, (p, P, o, 0, c)) := if_pos ⟨k2, by omega⟩
      rw [bz] at k
      exact BX13_beginOne_18 (k h M s Kb.rf)
theorem R_X13_behindOne {l1 l2 l3 : Option aV} (s : IsZ g h M b F (p, P, o, 1, c)) (ok : okF F) (b0 : 0 ≤ b) (b1 : b ≤ 2115) (z : okZs F (p, P, o, 1, c)) (k : ∀ h1 M1, IsZ g h1 M1 b F (behZ F p P o c).2 → Kb M M1 (b + 97) → Q (some (vI (behZ F p P o c).1)) h1 n) : Rn (d + 5) bc bs mX13_behindOne 0 [some (vR (some 301)), l1, l2, l3] [] h n Q := by
  have e := s.1.1
  obtain ⟨⟨z1, z2⟩, ⟨z3, z4⟩, z5, z6⟩ := z
  dsimp only at z1 z2 z3 z4 z5 z6
  have n1 := tkN_in ok z1 z2
  refine BX13_behindOne_0 e.o ?_
  refine R_X13_betweenOf s (by omega) ?_
  have bz : behZ F p P o c = if 0 ≤ btZ (tkK F p) (opN P) (isC P) then (0, (tkN F p, btZ (tkK F p) (opN P) (isC P) :: (seZ (stl (btZ (tkK F p) (opN P) (isC P))) P o c).1, (seZ (stl (btZ (tkK F p) (opN P) (isC P))) P o c).2.1, 0, (seZ (stl (btZ (tkK F p) (opN P) (isC P))) P o c).2.2)) else if paZ (tkK F p) (opN P) (isC P) < 0 then (-1, (p, P, o, 1, c)) else if paZ (tkK F p) (opN P) (isC P) = 0 then endZ F (tkN F p) (seZ 1 P o c).1.tail ((seZ 1 P o c).2.1 - 1) (if opN P = 44 then (seZ 1 P o c).2.2 ++ [(3, 0)] else (seZ 1 P o c).2.2) else (0, (tkN F p, paZ (tkK F p) (opN P) (isC P) :: (seZ 1 P o c).1.tail, (seZ 1 P o c).2.1, 0, (seZ 1 P o c).2.2)) := rfl
  generalize btZ (tkK F p) (opN P) (isC P) = B at *
  refine BX13_behindOne_4 (fun q1 => ?_) fun q1 => ?_
  · rw [if_neg (by omega)] at bz
    refine BX13_behindOne_60 e.o ?_
    refine R_X13_openNow s (by omega) ?_
    refine BX13_behindOne_64 e.o ?_
    refine R_X13_partOf s (by omega) ?_
    have os := opN_se P o c
    have p4 : 0 ≤ paZ (tkK F p) (opN P) (isC P) → 40 ≤ opN P := by
      intro w
      refine Int.not_lt.mp fun u => ?_
      unfold paZ at w
      rw [if_neg (by omega), if_neg (by omega), if_neg (by omega), if_neg (by omega)] at w
      omega
    generalize paZ (tkK F p) (opN P) (isC P) = A at *
    refine BX13_behindOne_70 (fun q2 => ?_) fun q2 => ?_
    · rw [if_neg (by omega)] at bz
      refine BX13_behindOne_77 e.o ?_
      refine R_X13_settle ok b0 b1 P o c h M s (by omega) (by omega) (by omega) (by omega) fun h1 M1 s1 k1 => ?_
      have si := seZ_in (l := 1) P o c
      have p4 := p4 q2
      refine BX13_behindOne_82 s1.1.1.o ?_
      refine R_nextZ s1 ok z1 z2 fun h2 M2 s2 k2 => ?_
      generalize (seZ 1 P o c).1 = R at *
      generalize (seZ 1 P o c).2.1 = o3 at *
      generalize (seZ 1 P o c).2.2 = c3 at *
      rcases R with _ | ⟨y, R⟩
      · exfalso
        have : opN [] = -1 := rfl
        omega
      have y40 : 40 ≤ y := by
        rcases os.2 with w | w
        · cases w
        · exact w
      have d2 : M2 0 16 = ((y :: R).length : Int) := s2.2.1.1
      have sl := Sk_lo s2.2.2
      rw [List.length_cons] at d2 si
      refine BX13_behindOne_86 (fun q3 => ?_) fun q3 => ?_
      · rw [if_neg q3] at bz
        rw [bz] at k
        refine BX13_behindOne_127 s2.1.1.o rfl ?_
        refine R_X13_openAt s2 (by rw [List.length_cons]; omega) ?_
        have ea : opA (y :: R) = R.length := if_pos y40
        rw [ea]
        refine BX13_behindOne_135 s2.1.1.a5 (by omega) (by simp only [Ls_len]; omega) (by decide) ?_
        refine IsM.p5 s2.1.1 (by omega) fun h5 M5 e5 v5 vk => ?_
        have s5 := s2.q (P2 := A :: R) e5 vk rfl (by rw [v5]; exact Sk_push sl.2)
        refine BX13_behindOne_137 e5.o (by show 18 < (mf (M5 0)).length; unfold mf; simp) ?_
        refine IsM.p0 e5 (mfs_18 _ _) fun h6 M6 e6 z0 zk => ?_
        have zf : ∀ j, j ≠ 18 → M6 0 j = M5 0 j := fun j hj => by rw [z0, fset_ne hj]
        have s6 := s5.f (P2 := A :: R) (o2 := o3) (w2 := 0) e6 zk (fun j _ _ h18 => zf j h18) (by rw [zf 16 (by decide)]; exact s5.2.1.1) (by rw [zf 17 (by decide)]; exact s5.2.1.2.1) (by rw [z0, fset_at]) s5.2.2
        exact BX13_behindOne_142 (k h6 M6 s6 (((k1.tr k2).tr (Kb.q vk)).tr (Kb.f zk fun j _ _ h18 => zf j h18)))
      · rw [if_pos q3] at bz
        rw [bz] at k
        have d17 : M2 0 17 = o3 := s2.2.1.2.1
        refine BX13_behindOne_90 s2.1.1.o rfl (by omega) (by show 17 < (mf (M2 0)).length; unfold mf; simp) ?_
        refine IsM.p0 s2.1.1 (mfs_17 _ _) fun h3 M3 e3 u0 uk => ?_
        have uf : ∀ j, j ≠ 17 → M3 0 j = M2 0 j := fun j hj => by rw [u0, fset_ne hj]
        have s3 := s2.f (P2 := y :: R) (o2 := o3 - 1) (w2 := 1) e3 uk (fun j _ h17 _ => uf j h17) (by rw [uf 16 (by decide)]; exact s2.2.1.1) (by rw [u0, fset_at, d17]) (by rw [uf 18 (by decide)]; exact s2.2.1.2.2) s2.2.2
        have d3 : M3 0 16 = ((y :: R).length : Int) := s3.2.1.1
        rw [List.length_cons] at d3
        refine BX13_behindOne_100 e3.o rfl (by omega) (by show 16 < (mf (M3 0)).length; unfold mf; simp) ?_
        refine IsM.p0 e3 (mfs_16 _ _) fun h4 M4 e4 v0 vk => ?_
        have vf : ∀ j, j ≠ 16 → M4 0 j = M3 0 j := fun j hj => by rw [v0, fset_ne hj]
        have s4 := s3.f (P2 := R) (o2 := o3 - 1) (w2 := 1) e4 vk (fun j h16 _ _ => vf j h16) (by rw [v0, fset_at, d3]; omega) (by rw [vf 17 (by decide)]; exact s3.2.1.2.1) (by rw [vf 18 (by decide)]; exact s3.2.1.2.2) (Sk_lo s3.2.2).2
        have k4 : Kb M M4 (b + 97) := ((k1.tr k2).tr (Kb.f uk fun j _ h17 _ => uf j h17)).tr (Kb.f vk fun j h16 _ _ => vf j h16)
        have fin : ∀ (c4 : Em), (c4.length : Int) ≤ c3.length + 1 → (if opN P = 44 then c3 ++ [(3, 0)] else c3) = c4 → ∀ h5 M5, IsZ g h5 M5 b F (tkN F p, R, o3 - 1, 1, c4) → Kb M M5 (b + 97) → Rn (d + 5) bc bs mX13_behindOne 122 [some (vR (some 301)), some (vI B), some (vI (opN P)), some (vI A)] [] h5 n Q := by
          intro c4 hc4 ec h5 M5 s5 k5
          refine BX13_behindOne_122 s5.1.1.o ?_
          refine R_X13_endOne s5 ok b0 b1 n1.1 n1.2 (by omega) (by omega) (by omega) (by omega) fun h6 M6 s6 k6 => ?_
          refine BX13_behindOne_126 ?_
          rw [ec] at k
          exact k h6 M6 s6 (k5.tr k6)
        refine BX13_behindOne_110 (fun q4 => ?_) fun q4 => ?_
        · exact fin c3 (by omega) (if_neg q4) h4 M4 s4 k4
        · refine BX13_behindOne_116 e4.o ?_
          refine R_X13_emit s4 b0 b1 (by omega) fun h5 M5 s5 k5 _ => ?_
          exact fin (c3 ++ [(3, 0)]) (by rw [List.length_append, List.length_singleton]; omega) (if_pos q4) h5 M5 s5 (k4.tr k5)
    · rw [if_pos q2] at bz
      rw [bz] at k
      exact BX13_behindOne_75 (k h M s Kb.rf)
  · rw [if_pos q1] at bz
    rw [bz] at k
    have K29 : ∀ h1 M1, IsZ g h1 M1 b F (p, (seZ (stl B) P o c).1, (seZ (stl B) P o c).2.1, 1, (seZ (stl B) P o c).2.2) → Kb M M1 (b + 97) → ∀ l2 l3, Rn (d + 5) bc bs mX13_behindOne 29 [some (vR (some 301)), some (vI B), l2, l3] [] h1 n Q := by
      intro h1 M1 s1 k1 l2 l3
      have si := seZ_in (l := stl B) P o c
      generalize (seZ (stl B) P o c).1 = R at *
      generalize (seZ (stl B) P o c).2.1 = o3 at *
      generalize (seZ (stl B) P o c).2.2 = c3 at *
      have d1 : M1 0 16 = (R.length : Int) := s1.2.1.1
      refine BX13_behindOne_29 s1.1.1.o rfl rfl s1.1.1.a5 (by omega) (by simp only [Ls_len]; omega) (by decide) ?_
      refine IsM.p5 s1.1.1 (by omega) fun h2 M2 e2 v5 vk => ?_
      have sk2 : Sk (M2 5) (B :: R) ((B :: R).length : Int) := by rw [v5, d1]; exact Sk_push s1.2.2
      have s2 := s1.q (P2 := R) e2 vk rfl (by rw [v5, d1]; exact Sk_fs s1.2.2 (Int.le_refl _))
      have d2 : M2 0 16 = R.length := s2.2.1.1
      refine BX13_behindOne_39 e2.o rfl (by omega) (by show 16 < (mf (M2 0)).length; unfold mf; simp) ?_
      refine IsM.p0 e2 (mfs_16 _ _) fun h3 M3 e3 z0 zk => ?_
      have zf : ∀ j, j ≠ 16 → M3 0 j = M2 0 j := fun j hj => by rw [z0, fset_ne hj]
      have s3 := s2.f (P2 := B :: R) (o2 := o3) (w2 := 1) e3 zk (fun j h16 _ _ => zf j h16) (by rw [z0, fset_at, d2, List.length_cons]; omega) (by rw [zf 17 (by decide)]; exact s2.2.1.2.1) (by rw [zf 18 (by decide)]; exact s2.2.1.2.2) sk2
      refine BX13_behindOne_49 e3.o (by show 18 < (mf (M3 0)).length; unfold mf; simp) ?_
      refine IsM.p0 e3 (mfs_18 _ _) fun h4 M4 e4 y0 yk => ?_
      have yf : ∀ j, j ≠ 18 → M4 0 j = M3 0 j := fun j hj => by rw [y0, fset_ne hj]
      have s4 := s3.f (P2 := B :: R) (o2 := o3) (w2 := 0) e4 yk (fun j _ _ h18 => yf j h18) (by rw [yf 16 (by decide)]; exact s3.2.1.1) (by rw [yf 17 (by decide)]; exact s3.2.1.2.1) (by rw [y0, fset_at]) s3.2.2
      refine BX13_behindOne_54 e4.o ?_
      refine R_nextZ s4 ok z1 z2 fun h5 M5 s5 k5 => ?_
      exact BX13_behindOne_58 (k h5 M5 s5 ((((k1.tr (Kb.q vk)).tr (Kb.f zk fun j h16 _ _ => zf j h16)).tr (Kb.f yk fun j _ _ h18 => yf j h18)).tr k5))
    refine BX13_behindOne_9 ?_
    refine R_X13_rank ?_
    refine BX13_behindOne_14 (fun q2 => ?_) fun q2 => ?_
    · refine BX13_behindOne_22 ?_
      refine R_X13_rank ?_
      refine BX13_behindOne_26 e.o ?_
      have es : stl B = rk B := if_neg q2
      rw [es] at K29
      refine R_X13_settle ok b0 b1 P o c h M s (by omega) (by omega) (by omega) (by omega) fun h1 M1 s1 k1 => ?_
      exact K29 h1 M1 s1 k1 _ _
    · refine BX13_behindOne_18 e.o ?_
      have es : stl B = 5 := if_pos q2
      rw [es] at K29
      refine R_X13_settle ok b0 b1 P o c h M s (by omega) (by omega) (by omega) (by omega) fun h1 M1 s1 k1 => ?_
      exact K29 h1 M1 s1 k1 _ _
theorem summed_loop {r : Int × Zs} (ok : okF F) (b0 : 0 ≤ b) (b1 : b ≤ 2115) : ∀ (f : Nat) (z : Zs) (h : aH) (M : Int → Int → Int) (l1 : Option aV), IsZ g h M b F z → (z.2.2.2.1 = 0 ∨ z.2.2.2.1 = 1) → M 0 14 = iw → rnZ F iw f z r → (∀ h1 M1, IsZ g h1 M1 b F r.2 → Kb M M1 (b + 97) → Q (some (vI (if r.1 = -1 then 0 else r.1))) h1 n) → Rn (d + 8) bc bs mX13_summed 15 [some (vR (some 301)), l1] [] h n Q := by
  intro f
  induction f with
  | zero => intro z h M l1 s hw hiw hr k; exact hr.elim
  | succ f ih =>
    intro z h M l1 s hw hiw hr k
    obtain ⟨p, P, o, w, c⟩ := z
    obtain ⟨oz, hr⟩ := hr
    have e := s.1.1
    have d18 : M 0 18 = w := s.2.1.2.2
    have hw : w = 0 ∨ w = 1 := hw
    -- what one step answers
    have step : ∀ (v : Int) (z2 : Zs) (h1 : aH) (M1 : Int → Int → Int), stZ F iw (p, P, o, w, c) = (v, z2) → 0 ≤ v → (z2.2.2.2.1 = 0 ∨ z2.2.2.2.1 = 1) → IsZ g h1 M1 b F z2 → Kb M M1 (b + 97) → (0 < v → Q (some (vI v)) h1 n) ∧ (v = 0 → Rn (d + 8) bc bs mX13_summed 15 [some (vR (some 301)), some (vI v)] [] h1 n Q) := by
      intro v z2 h1 M1 ez v0 hz2 s1 k1
      rw [ez] at hr
      refine ⟨fun vp => ?_, fun vz => ?_⟩
      · rw [if_neg (by show ¬ v = 0; omega)] at hr
        subst hr
        have := k h1 M1 s1 k1
        rw [if_neg (by show ¬ v = -1; omega)] at this
        exact this
      · rw [if_pos (show (v, z2).1 = 0 from vz)] at hr
        exact ih z2 h1 M1 _ s1 hz2 (by rw [k1.2.1 14 (by decide)]; exact hiw) hr fun h2 M2 s2 k2 => k h2 M2 s2 (k1.tr k2)
    have wz : ∀ (p : Int) (P : List Int) (o : Int) (c : Em), (endZ F p P o c).2.2.2.2.1 = 0 ∨ (endZ F p P o c).2.2.2.2.1 = 1 := by
      intro p P o c
      unfold endZ
      split
      · split
        · exact .inl rfl
        · exact .inr rfl
      · exact .inr rfl
    have wo : ∀ (x p : Int) (P : List Int) (o : Int) (c : Em), (opZ F x p P o c).2.2.2.2.1 = 0 := by
      intro x p P o c
      unfold opZ
      split <;> rfl
    refine BX13_summed_15 e.o rfl (fun q0 => ?_) fun q0 => ?_
    · have w0 : w = 0 := by omega
      subst w0
      refine BX13_summed_29 e.o ?_
      refine R_X13_beginOne s hiw ok b0 b1 oz fun h1 M1 s1 k1 => ?_
      have es : stZ F iw (p, P, o, 0, c) = begZ F iw p P o c := if_pos rfl
      have bc0 := begZ_c F iw p P o c
      have hz2 : (begZ F iw p P o c).2.2.2.2.1 = 0 ∨ (begZ F iw p P o c).2.2.2.2.1 = 1 := by
        unfold begZ
        split
        · exact .inl rfl
        · split
          · exact .inl rfl
          · split
            · exact wz _ _ _ _
            · split
              · exact wz _ _ _ _
              · split
                · exact .inl (wo _ _ _ _ _)
                · split
                  · exact .inl (wo _ _ _ _ _)
                  · split
                    · exact .inl (wo _ _ _ _ _)
                    · split
                      · exact .inl (wo _ _ _ _ _)
                      · split
                        · exact .inl (wo _ _ _ _ _)
                        · split
                          · exact .inl (wo _ _ _ _ _)
                          · exact .inl rfl
      have st := step (begZ F iw p P o c).1 (begZ F iw p P o c).2 h1 M1 es bc0 hz2 s1 k1
      refine BX13_summed_33 (fun q1 => ?_) fun q1 => ?_
      · refine BX13_summed_40 (fun q2 => by exfalso; omega) fun q2 => ?_
        exact BX13_summed_44 (st.2 q2)
      · exact BX13_summed_38 (st.1 q1)
    · have w1 : w = 1 := by omega
      subst w1
      refine BX13_summed_22 e.o ?_
      refine R_X13_behindOne s ok b0 b1 oz fun h1 M1 s1 k1 => ?_
      have bc0 := behZ_c F p P o c
      by_cases qm : (behZ F p P o c).1 = -1
      · rw [qm]
        rw [bc0.2 qm] at s1
        have es : stZ F iw (p, P, o, 1, c) = if 0 ≤ opN P then (1, (p, P, o, 1, c)) else (-1, (p, (seZ 1 P o c).1, (seZ 1 P o c).2.1, 1, (seZ 1 P o c).2.2)) := by
          unfold stZ
          rw [if_neg (by show ¬ (1 : Int) = 0; decide)]
          exact if_pos qm
        obtain ⟨⟨z1, z2⟩, ⟨z3, z4⟩, z5, z6⟩ := id oz
        dsimp only at z1 z2 z3 z4 z5 z6
        refine BX13_summed_26 (fun _ => ?_) fun w => absurd w (by decide)
        refine BX13_summed_40 (fun _ => ?_) fun w => absurd w (by decide)
        refine BX13_summed_47 s1.1.1.o ?_
        refine R_X13_openNow s1 (by omega) ?_
        refine BX13_summed_51 (fun q3 => ?_) fun q3 => ?_
        · rw [if_neg (by omega)] at es
          rw [es, if_neg (by show ¬ (-1 : Int) = 0; decide)] at hr
          subst hr
          refine BX13_summed_56 s1.1.1.o ?_
          refine R_X13_settle ok b0 b1 P o c h1 M1 s1 (by omega) (by omega) (by omega) (by omega) fun h2 M2 s2 k2 => ?_
          refine BX13_summed_61 ?_
          have := k h2 M2 s2 (k1.tr k2)
          rw [if_pos rfl] at this
          exact this
        · rw [if_pos (by omega)] at es
          have st := step 1 (p, P, o, 1, c) h1 M1 es (by decide) (.inr rfl) s1 k1
          exact BX13_summed_54 (st.1 (by decide))
      · have es : stZ F iw (p, P, o, 1, c) = behZ F p P o c := by
          unfold stZ
          rw [if_neg (by show ¬ (1 : Int) = 0; decide)]
          exact if_neg qm
        have hz2 : (behZ F p P o c).2.2.2.2.1 = 0 ∨ (behZ F p P o c).2.2.2.2.1 = 1 := by
          unfold behZ
          split
          · exact .inl rfl
          · split
            · exact .inr rfl
            · split
              · exact wz _ _ _ _
              · exact .inl rfl
        have st := step (behZ F p P o c).1 (behZ F p P o c).2 h1 M1 es (by omega) hz2 s1 k1
        refine BX13_summed_26 (fun q1 => ?_) fun q1 => ?_
        · refine BX13_summed_40 (fun q2 => by exfalso; omega) fun q2 => ?_
          exact BX13_summed_44 (st.2 q2)
        · exact BX13_summed_38 (st.1 q1)
theorem R_X13_summed {r : Int × Zs} {l1 : Option aV} (s : IsY g h M b F p c) (hiw : M 0 14 = iw) (ok : okF F) (b0 : 0 ≤ b) (b1 : b ≤ 2115) (hr : Rz F iw (p, [], 0, 0, c) r) (k : ∀ h1 M1, IsZ g h1 M1 b F r.2 → Kb M M1 (b + 97) → Q (some (vI (if r.1 = -1 then 0 else r.1))) h1 n) : Rn (d + 8) bc bs mX13_summed 0 [some (vR (some 301)), l1] [] h n Q := by
  obtain ⟨e, tp, ⟨a1, a2⟩, ⟨t1, t2, t3⟩, em⟩ := s
  refine BX13_summed_0 e.o (by show 16 < (mf (M 0)).length; unfold mf; simp) ?_
  refine IsM.p0 e (mfs_16 _ _) fun h1 M1 e1 u0 uk => ?_
  refine BX13_summed_5 e1.o (by show 17 < (mf (M1 0)).length; unfold mf; simp) ?_
  refine IsM.p0 e1 (mfs_17 _ _) fun h2 M2 e2 v0 vk => ?_
  refine BX13_summed_10 e2.o (by show 18 < (mf (M2 0)).length; unfold mf; simp) ?_
  refine IsM.p0 e2 (mfs_18 _ _) fun h3 M3 e3 y0 yk => ?_
  have q0 : M3 0 = fset (fset (fset (M 0) 16 0) 17 0) 18 0 := by rw [y0, v0, u0]
  have qk : ∀ k, k ≠ 0 → M3 k = M k := fun k hk => by rw [yk k hk, vk k hk, uk k hk]
  have qf : ∀ j, j ≠ 16 → j ≠ 17 → j ≠ 18 → M3 0 j = M 0 j := fun j h16 h17 h18 => by rw [q0, fset_ne h18, fset_ne h17, fset_ne h16]
  have kb : Kb M M3 (b + 97) := Kb.f qk qf
  obtain ⟨f, hf⟩ := hr
  refine summed_loop ok b0 b1 f (p, [], 0, 0, c) h3 M3 _ ⟨⟨e3, ⟨by rw [qf 4 (by decide) (by decide) (by decide)]; exact tp.1, by rw [qk 4 (by decide)]; exact tp.2⟩, ⟨by rw [qf 12 (by decide) (by decide) (by decide)]; exact a1, by rw [qf 13 (by decide) (by decide) (by decide)]; exact a2⟩, ⟨by rw [qf 8 (by decide) (by decide) (by decide)]; exact t1, by rw [qf 7 (by decide) (by decide) (by decide)]; exact t2, by rw [qf 9 (by decide) (by decide) (by decide), qf 10 (by decide) (by decide) (by decide), qf 11 (by decide) (by decide) (by decide)]; exact t3⟩, by rw [qk 3 (by decide)]; exact em⟩, ⟨by rw [q0, fset_ne (by decide), fset_ne (by decide), fset_at]; rfl, by rw [q0, fset_ne (by decide), fset_at], by rw [q0, fset_at]⟩, rfl⟩ (.inl rfl) (by rw [kb.2.1 14 (by decide)]; exact hiw) hf fun h4 M4 s4 k4 => k h4 M4 s4 (kb.tr k4)
end SUMMED
