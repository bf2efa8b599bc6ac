/-! A null laid into a row of references. -/
section MORE
variable {d bc bs n : Nat} {h : aH} {Q : aQ} {M : aM} {pc : Nat} {ls : List (Option aV)} {st : List aV}
theorem Rn_aastoreN {a k : Nat} {i : Int} {xs : List (Option Nat)} (hk : k = 6 ∨ k = 10) (hd : decode M.2.1 pc = .ok (.aastore, 1)) (ha : a ≠ 0) (hh : h a = cQ k xs) (h0 : 0 ≤ i) (h1 : i < xs.length) (kk : Rn d bc bs M (pc + 1) ls st (up h a (cQ k (xs.set i.toNat none))) n Q) : Rn d bc bs M pc ls (vR none :: vI i :: vR (some a) :: st) h n Q := by
  intro g p l e R s m args below meth c H locs cells slots Qf lr sr C hc1 hs hR hS hL hst hret
  obtain ⟨w0, t0, rfl, r0, z0⟩ := sRel_cons hst
  have := vRel_N r0; subst this
  obtain ⟨w1, t1, rfl, r1, z1⟩ := sRel_cons z0
  obtain ⟨y, rfl, rfl⟩ := vRel_I r1
  obtain ⟨q2, t2, rfl, r2, z2⟩ := sRel_cons z1
  have := vRel_R r2; subst this
  have C2 := C
  obtain ⟨cx, cb, cml, -, -, co, cw, cK, cf, clo, -⟩ := C2
  obtain ⟨hin, hn⟩ := i32_nat (N := xs.length) h0 h1
  obtain ⟨ws, cA, f, hw, hf, k1, k2⟩ := aRel_refs hR ha hh
  refine va_WaastN cx cb (hw.2.2.2.2.1 (a - 1) _ hw.2.2.2.2.2.2.1) (k1 xs.length (fun j => va_rf (f j))) (fun q => by cases q) (by show ¬ (y < 0 ∨ (arrV _ _ _).slots.size ≤ _); rw [arrV_size]; exact hin) rfl rfl hd fun H1 e1 e2 e3 => ?_
  refine kk g p l e R s m args below meth c H1 _ cells slots Qf lr _ C hc1 hs (aRel_set (e1 := .inl (cA, xs.length, .inr (.inr (.inr (.inr (fun j => if j = y.toInt.toNat then none else f j)))))) hR hw ⟨by simp, ?_, k1, k2⟩ ?_ e2 e3) (hS.put e2 e3 (gA_ad ha)) hL z2 hret
  · intro j hj
    by_cases q : y.toInt.toNat = j
    · subst q
      exact ⟨none, by rw [List.getElem?_set_self hj], by show (if _ = _ then _ else _) = _; rw [if_pos rfl]; rfl⟩
    · obtain ⟨r, f1, f2⟩ := hf j hj
      exact ⟨r, by rw [List.getElem?_set_ne q]; exact f1, by show (if _ = _ then _ else _) = _; rw [if_neg (fun e => q e.symm)]; exact f2⟩
  · show H1[gAd g a]? = some (vp_cell _ _)
    rw [e1, hn]
    exact congrArg some (arrV_upd cA xs.length _ va_rf f none)
end MORE
theorem BX11_copyFrom_64N {d bc bs : Nat} {h : aH} {n : Nat} {Q : aQ} {ar0 ar1 at3 at7 : Nat} {x2 : Int} {f1 f5 : List aV} {w9 w15 : List (Option Nat)} (h2 : h ar0 = cO 11 f1) (g4 : f1[4]? = some (vR (some at3))) (h6 : h ar1 = cO 11 f5) (g8 : f5[4]? = some (vR (some at7))) (h10 : h at7 = cQ 10 w9) (i12 : 0 ≤ x2) (g13 : w9[(x2 : Int).toNat]? = some none) (z14 : at7 ≠ 0) (h16 : h at3 = cQ 10 w15) (j17 : x2 < w15.length) (z20 : at3 ≠ 0) (k : Rn d bc bs mX11_copyFrom 76 [some (vR (some ar0)), some (vR (some ar1)), some (vI x2)] [] (up h at3 (cQ 10 (w15.set (x2 : Int).toNat none))) n Q) : Rn d bc bs mX11_copyFrom 64 [some (vR (some ar0)), some (vR (some ar1)), some (vI x2)] [] h n Q := by
  refine Rn_aload_n dX11_copyFrom_64 rfl rfl rfl ?_
  refine Rn_getfield (ci := 11) (k := 4) dX11_copyFrom_65 rfl in_11 (Nat.le_of_ble_eq_true rfl) wd_300 rfl h2 g4 ?_
  refine Rn_iload_n dX11_copyFrom_68 rfl rfl ?_
  refine Rn_aload_n dX11_copyFrom_69 rfl rfl rfl ?_
  refine Rn_getfield (ci := 11) (k := 4) dX11_copyFrom_70 rfl in_11 (Nat.le_of_ble_eq_true rfl) wd_300 rfl h6 g8 ?_
  refine Rn_iload_n dX11_copyFrom_73 rfl rfl ?_
  refine Rn_aaload dX11_copyFrom_74 z14 h10 i12 g13 ?_
  refine Rn_aastoreN (k := 10) (by decide) dX11_copyFrom_75 z20 h16 i12 j17 ?_
  exact k
