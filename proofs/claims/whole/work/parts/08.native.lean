/-! The library's own: arraycopy over rows of ints. -/
def aCpy (xs ys : List Int) (sp dp k : Nat) : List Int := (List.range ys.length).map fun j => if dp ≤ j ∧ j < dp + k then xs.getD (sp + (j - dp)) 0 else ys.getD j 0
theorem aCpy_len (xs ys : List Int) (sp dp k : Nat) : (aCpy xs ys sp dp k).length = ys.length := by simp [aCpy]
theorem nn32 {y : Int32} (h : 0 ≤ y.toInt) : ¬ y < 0 := fun q => by
  have := Int32.lt_iff_toInt_lt.mp q
  have e : (0 : Int32).toInt = 0 := rfl
  omega
theorem nfw_ac : nativeFrameWords "java/lang/System" "arraycopy" 5 ≤ 60 := by decide +kernel
section RULES
variable {d bc bs : Nat} {M : aM} {pc : Nat} {ls : aL} {st : List aV} {h : aH} {n : Nat} {Q : aQ}
set_option maxHeartbeats 1000000 in
theorem Rn_arraycopy {a0 a1 idx : Nat} {sp dp k : Int} {xs ys : List Int} (hd : decode M.2.1 pc = .ok (.invokestatic idx, 3)) (hlink : Cond.methodLink M.1.cls idx arraycopyName ∈ aGT) (hnat : Cond.native arraycopyName ∈ aGT) (hstat : Cond.static arraycopyName ∈ aGT) (hini : Cond.initialized "java/lang/System" ∈ aGT) (ha0 : a0 ≠ 0) (ha1 : a1 ≠ 0) (hx : h a0 = cI xs) (hy : h a1 = cI ys)
    (h1 : 0 ≤ sp) (h2 : 0 ≤ dp) (h3 : 0 ≤ k) (h4 : sp + k ≤ xs.length) (h5 : dp + k ≤ ys.length) (h8 : (st.map aCat).sum ≤ 8) (kk : Rn (d + 1) bc bs M (pc + 3) ls st (up h a1 (cI (aCpy xs ys sp.toNat dp.toNat k.toNat))) n Q) :
    Rn (d + 1) bc bs M pc ls (vI k :: vI dp :: vR (some a1) :: vI sp :: vR (some a0) :: st) h n Q := by
  intro g p l e R s m args below meth c H locs cells slots Qf lr sr C hc1 hs hR hS hL hst hret
  obtain ⟨w, t0, rfl, r0, z0⟩ := sRel_cons hst
  obtain ⟨yk, rfl, rfl⟩ := vRel_I r0
  obtain ⟨w, t1, rfl, r1, z1⟩ := sRel_cons z0
  obtain ⟨yd, rfl, rfl⟩ := vRel_I r1
  obtain ⟨w, t2, rfl, r2, z2⟩ := sRel_cons z1
  have := vRel_R r2; subst this
  obtain ⟨w, t3, rfl, r3, z3⟩ := sRel_cons z2
  obtain ⟨ys0, rfl, rfl⟩ := vRel_I r3
  obtain ⟨w, t4, rfl, r4, z4⟩ := sRel_cons z3
  have := vRel_R r4; subst this
  obtain ⟨cx, cb, cml, -, -, co, cw, cK, cf, clo, -⟩ := id C
  obtain ⟨ws0, cA0, f0, hw0, hf0, k01, k02⟩ := aRel_int hR ha0 hx
  obtain ⟨ws1, cA1, f1, hw1, hf1, k11, k12⟩ := aRel_int hR ha1 hy
  have hc0 : H[gAd g a0]? = some (vp_cell cA0 (xs.length, .inl f0)) := hw0.2.2.2.2.1 _ _ hw0.2.2.2.2.2.2.1
  have hc2 : H[gAd g a1]? = some (vp_cell cA1 (ys.length, .inl f1)) := hw1.2.2.2.2.1 _ _ hw1.2.2.2.2.2.2.1
  obtain ⟨-, k0, hk0, cm0, hkk0⟩ := k01 xs.length (fun j => .int (f0 j))
  obtain ⟨-, k1, hk1, cm1, hkk1⟩ := k11 ys.length (fun j => .int (f1 j))
  have es : ys0.toInt.toNat = ys0.toNatClampNeg := rfl
  have ed : yd.toInt.toNat = yd.toNatClampNeg := rfl
  have ek : yk.toInt.toNat = yk.toNatClampNeg := rfl
  have hgoal : ∀ (T : State), T.heap = H → Stand p l e R s m args below meth c T locs cells slots → ∃ t, Steps p.tables e below (T.setTop (F0 m pc lr (.int yk :: .int yd :: .ref (gAd g a1) :: .int ys0 :: .ref (gAd g a0) :: t4))) t ∧ Qf t := by
    intro T hT X
    obtain ⟨vm1, X1, step⟩ := X.arraycopy cx co (cw _ hlink) (cw _ hnat) (cw _ hstat) (cw _ hini) (src := gAd g a0) (dst := gAd g a1) (cs := vp_cell cA0 (xs.length, .inl f0)) (cd := vp_cell cA1 (ys.length, .inl f1)) (srcPos := ys0) (destPos := yd) (n := yk) (by rw [hT]; exact hc0) (by rw [hT]; exact hc2)
      (fun _ h => by cases h) (fun _ h => by cases h) (fun h => by cases h) (fun h => by cases h) hk0 hk1 hkk0 hkk1 (by simp [refKind]) (nn32 h1) (nn32 h2) (nn32 h3)
      (by show ¬ _ > ((arrV cA0 xs.length (fun j => .int (f0 j))).slots.size : Int); rw [arrV_size]; omega)
      (by show ¬ _ > ((arrV cA1 ys.length (fun j => .int (f1 j))).slots.size : Int); rw [arrV_size]; omega)
      (fun vm₁ _ i hi => by
        have e : (vp_cell cA0 (xs.length, .inl f0)).slots.getD (ys0.toNatClampNeg + i) .null = .int (f0 (ys0.toNatClampNeg + i)) := by
          show (arrV cA0 xs.length (fun j => .int (f0 j))).slots.getD _ _ = _
          rw [Array.getD_eq_getD_getElem?, arrV_read _ _ (by omega)]
          rfl
        refine ⟨?_, ?_⟩
        · rw [e]; rfl
        · rw [e]; exact trivial)
      (g := F0 m pc lr (.int yk :: .int yd :: .ref (gAd g a1) :: .int ys0 :: .ref (gAd g a0) :: t4)) rfl (by rw [cml]; exact hL.1) (rest := t4) rfl (by rw [cb]; exact hd) (by omega) (by have := nfw_ac; have := sRel_sum z4; show 2 * 0 + _ + _ ≤ _; omega)
    have e1 : copied (vp_cell cA0 (xs.length, .inl f0)) (vp_cell cA1 (ys.length, .inl f1)) ys0 yd yk = vp_cell cA1 (ys.length, .inl (va_cpy f0 f1 ys0.toNatClampNeg yd.toNatClampNeg yk.toNatClampNeg)) := va_copied (fun z => .int z) cA0 cA1 f0 f1 (by omega)
    rw [e1] at X1 step
    have hl : gAd g a1 < H.size := (Array.getElem?_eq_some_iff.mp hc2).1
    have oq : ∀ q : Nat, q ≠ gAd g a1 → (H.setIfInBounds (gAd g a1) (vp_cell cA1 (ys.length, .inl (va_cpy f0 f1 ys0.toNatClampNeg yd.toNatClampNeg yk.toNatClampNeg))))[q]? = H[q]? := fun q hq => by simp [Array.getElem?_setIfInBounds, Ne.symm hq]
    have hrel : aRel g s (up h a1 (cI (aCpy xs ys ys0.toInt.toNat yd.toInt.toNat yk.toInt.toNat))) n (H.setIfInBounds (gAd g a1) (vp_cell cA1 (ys.length, .inl (va_cpy f0 f1 ys0.toNatClampNeg yd.toNatClampNeg yk.toNatClampNeg)))) := by
      refine aRel_set (e1 := .inl (cA1, ys.length, .inl (va_cpy f0 f1 ys0.toNatClampNeg yd.toNatClampNeg yk.toNatClampNeg))) hR hw1 ⟨by rw [aCpy_len], fun j hj => ?_, k11, k12⟩ (show (H.setIfInBounds (gAd g a1) _)[gAd g a1]? = some _ by simp [Array.getElem?_setIfInBounds, hl]) (by simp) oq
      unfold aCpy va_cpy
      rw [List.getElem?_map, List.getElem?_range hj, Option.map_some, es, ed, ek]
      by_cases q : yd.toNatClampNeg ≤ j ∧ j < yd.toNatClampNeg + yk.toNatClampNeg
      · rw [if_pos q, if_pos q, List.getD_eq_getElem?_getD, hf0 _ (by omega)]; rfl
      · rw [if_neg q, if_neg q, List.getD_eq_getElem?_getD, hf1 _ hj]; rfl
    have hheap : ((T.setVm vm1).setCell (gAd g a1) (vp_cell cA1 (ys.length, .inl (va_cpy f0 f1 ys0.toNatClampNeg yd.toNatClampNeg yk.toNatClampNeg)))).heap = H.setIfInBounds (gAd g a1) (vp_cell cA1 (ys.length, .inl (va_cpy f0 f1 ys0.toNatClampNeg yd.toNatClampNeg yk.toNatClampNeg))) := by rw [← hT]; rfl
    obtain ⟨t, b1, b2⟩ := kk g p l e R s m args below meth c _ _ cells slots Qf lr _ C hc1 hs hrel (by exact ⟨by simp; exact hS.1, fun q g1 g2 => by rw [oq q (fun e => g2 (by rw [e]; exact gA_ad ha1))]; exact hS.2.1 q g1 g2, fun q hq => by
        rcases List.mem_append.mp hq with z | z
        · exact hS.2.2 q z
        · obtain ⟨i, -, hi⟩ := List.mem_map.mp z
          rw [← hi]
          exact gA_ad ha1⟩) hL z4 hret _ hheap X1
    exact ⟨t, step t b1, b2⟩
  exact hgoal
end RULES
