/-! Rows over arrays, and what makes cells. -/
theorem tysOf {g : aG} {s : State} {cA : ClassId} {ty : FieldType} (hK : va_K (gD g) vwCl [] s) (h1 : ArrOfT s cA ty) (h2 : va_RA s cA ty) : va_K (gD g) vwCl [(cA, ty)] s := ⟨hK.1, fun k q hk => by
  have hz : k < 1 := (List.getElem?_eq_some_iff.mp hk).1
  rw [show k = 0 by omega] at hk
  cases hk
  exact ⟨h1, h2⟩⟩
theorem aScr {g : aG} {s : State} {h : aH} {n : Nat} {H : Heap} (hR : aRel g s h n H) {xs : List Int} (hh : h 0 = cI xs) : xs.length = gL g ∧ ∀ j, j < xs.length → xs[j]? = some (gxs g j).toInt := by
  have h4 := hR.2.2.2.1
  rw [hh] at h4
  have h5 : xs = (List.range (gL g)).map fun j => (gxs g j).toInt := by injection h4 with h4; injection h4
  refine ⟨by rw [h5]; simp, fun j hj => ?_⟩
  rw [h5] at hj ⊢
  simp at hj
  simp [hj]
theorem arrV_upd {α : Type} (cA : ClassId) (N k : Nat) (F : α → Value) (f : Nat → α) (x : α) : (arrV cA N (fun j => F (f j))).setSlot k (F x) = arrV cA N (fun j => F (if j = k then x else f j)) := by
  rw [arrV_store]
  congr 1
  funext q
  by_cases hq : q = k
  · simp [updV, hq]
  · simp [updV, hq]
theorem upd_list {α : Type} {xs : List Int} {f : Nat → α} {F : α → Int} {k : Nat} {x : α} (h : ∀ j, j < xs.length → xs[j]? = some (F (f j))) : ∀ j, j < (xs.set k (F x)).length → (xs.set k (F x))[j]? = some (F (if j = k then x else f j)) := by
  intro j hj
  rw [List.length_set] at hj
  by_cases q : k = j
  · subst q
    rw [List.getElem?_set_self hj, if_pos rfl]
  · rw [List.getElem?_set_ne q, if_neg (fun e => q e.symm)]
    exact h j hj
section RULES
variable {d bc bs : Nat} {M : aM} {pc : Nat} {ls : aL} {st : List aV} {h : aH} {n : Nat} {Q : aQ}
theorem Rn_iaload {a : Nat} {i x : Int} {xs : List Int} (hd : decode M.2.1 pc = .ok (.iaload, 1)) (hh : h a = cI xs) (h0 : 0 ≤ i) (hv : xs[i.toNat]? = some x) (kk : Rn d bc bs M (pc + 1) ls (vI x :: st) h n Q) : Rn d bc bs M pc ls (vI i :: vR (some a) :: st) h n Q := by
  intro g p l e R s m args below meth c H locs cells slots Qf lr sr C hc1 hs hR hS hL hst hret
  obtain ⟨w, t0, rfl, r0, z0⟩ := sRel_cons hst
  obtain ⟨y, rfl, rfl⟩ := vRel_I r0
  obtain ⟨q1, t1, rfl, r1, z1⟩ := sRel_cons z0
  have := vRel_R r1; subst this
  have C2 := C
  obtain ⟨cx, cb, cml, -, -, co, cw, cK, cf, clo, -⟩ := C2
  have hlt : y.toInt.toNat < xs.length := (List.getElem?_eq_some_iff.mp hv).1
  obtain ⟨hin, hn⟩ := i32_nat (N := xs.length) h0 (by omega)
  by_cases ha : a = 0
  · subst ha
    obtain ⟨e1, e2⟩ := aScr hR hh
    have hX := cK.2.2.2.2.1
    rw [e1] at hin
    have hX2 := hX
    obtain ⟨scr, hscr, -⟩ := hX2
    refine va_sld (A := gA g) cx cb hX (Array.getElem?_eq_some_iff.mp hscr).1 (fun (q : gB g < gb g) => Nat.not_lt.mpr cK.2.2.2.2.2.1 q) hS hin hd ?_
    refine kk g p l e R s m args below meth c H locs cells slots Qf lr _ C hc1 hs hR hS hL ⟨?_, z1⟩ hret
    show (gxs g y.toNatClampNeg).toInt = x
    have := e2 _ hlt
    rw [hv] at this
    rw [hn]
    exact (Option.some.inj this).symm
  · obtain ⟨ws, cA, f, ⟨a0, a1, a2, a3, a4, a5, a6, a7⟩, hf, k1, k2⟩ := aRel_int hR ha hh
    refine va_iald cx cb (tysOf cK.1 k1 k2) a4 (a - 1) 0 a6 rfl hin hd ?_
    refine kk g p l e R s m args below meth c H locs cells slots Qf lr _ C hc1 hs hR hS hL ⟨?_, z1⟩ hret
    show (f y.toNatClampNeg).toInt = x
    have := hf _ hlt
    rw [hv] at this
    rw [hn]
    exact (Option.some.inj this).symm
theorem Rn_laload {a : Nat} {i x : Int} {xs : List Int} (hd : decode M.2.1 pc = .ok (.laload, 1)) (ha : a ≠ 0) (hh : h a = cJ xs) (h0 : 0 ≤ i) (hv : xs[i.toNat]? = some x) (kk : Rn d bc bs M (pc + 1) ls (vL x :: st) h n Q) : Rn d bc bs M pc ls (vI i :: vR (some a) :: st) h n Q := by
  intro g p l e R s m args below meth c H locs cells slots Qf lr sr C hc1 hs hR hS hL hst hret
  obtain ⟨w, t0, rfl, r0, z0⟩ := sRel_cons hst
  obtain ⟨y, rfl, rfl⟩ := vRel_I r0
  obtain ⟨q1, t1, rfl, r1, z1⟩ := sRel_cons z0
  have := vRel_R r1; subst this
  have C2 := C
  obtain ⟨cx, cb, cml, -, -, co, cw, cK, cf, clo, -⟩ := C2
  have hlt : y.toInt.toNat < xs.length := (List.getElem?_eq_some_iff.mp hv).1
  obtain ⟨hin, hn⟩ := i32_nat (N := xs.length) h0 (by omega)
  obtain ⟨ws, cA, f, ⟨a0, a1, a2, a3, a4, a5, a6, a7⟩, hf, k1, k2⟩ := aRel_long hR ha hh
  refine va_lald cx cb (tysOf cK.1 k1 k2) a4 (a - 1) 0 a6 rfl hin hd ?_
  refine kk g p l e R s m args below meth c H locs cells slots Qf lr _ C hc1 hs hR hS hL ⟨?_, z1⟩ hret
  show (f y.toNatClampNeg).toInt = x
  have := hf _ hlt
  rw [hv] at this
  rw [hn]
  exact (Option.some.inj this).symm
theorem Rn_baload {a : Nat} {i x : Int} {xs : List Int} (hd : decode M.2.1 pc = .ok (.baload, 1)) (ha : a ≠ 0) (hh : h a = cZ xs) (h0 : 0 ≤ i) (hv : xs[i.toNat]? = some x) (kk : Rn d bc bs M (pc + 1) ls (vI x :: st) h n Q) : Rn d bc bs M pc ls (vI i :: vR (some a) :: st) h n Q := by
  intro g p l e R s m args below meth c H locs cells slots Qf lr sr C hc1 hs hR hS hL hst hret
  obtain ⟨w, t0, rfl, r0, z0⟩ := sRel_cons hst
  obtain ⟨y, rfl, rfl⟩ := vRel_I r0
  obtain ⟨q1, t1, rfl, r1, z1⟩ := sRel_cons z0
  have := vRel_R r1; subst this
  have C2 := C
  obtain ⟨cx, cb, cml, -, -, co, cw, cK, cf, clo, -⟩ := C2
  have hlt : y.toInt.toNat < xs.length := (List.getElem?_eq_some_iff.mp hv).1
  obtain ⟨hin, hn⟩ := i32_nat (N := xs.length) h0 (by omega)
  obtain ⟨ws, cA, f, ⟨a0, a1, a2, a3, a4, a5, a6, a7⟩, hf, k1, k2⟩ := aRel_bool hR ha hh
  refine va_zald cx cb (tysOf cK.1 k1 k2) a4 (a - 1) 0 a6 rfl hin hd ?_
  refine kk g p l e R s m args below meth c H locs cells slots Qf lr _ C hc1 hs hR hS hL ⟨?_, z1⟩ hret
  show (f y.toNatClampNeg).toInt = x
  have := hf _ hlt
  rw [hv] at this
  rw [hn]
  exact (Option.some.inj this).symm
theorem Rn_aaload {a k : Nat} {i : Int} {x : Option Nat} {xs : List (Option Nat)} (hd : decode M.2.1 pc = .ok (.aaload, 1)) (ha : a ≠ 0) (hh : h a = cQ k xs) (h0 : 0 ≤ i) (hv : xs[i.toNat]? = some x) (kk : Rn d bc bs M (pc + 1) ls (vR x :: st) h n Q) : Rn d bc bs M pc ls (vI i :: vR (some a) :: st) h n Q := by
  intro g p l e R s m args below meth c H locs cells slots Qf lr sr C hc1 hs hR hS hL hst hret
  obtain ⟨w, t0, rfl, r0, z0⟩ := sRel_cons hst
  obtain ⟨y, rfl, rfl⟩ := vRel_I r0
  obtain ⟨q1, t1, rfl, r1, z1⟩ := sRel_cons z0
  have := vRel_R r1; subst this
  have C2 := C
  obtain ⟨cx, cb, cml, -, -, co, cw, cK, cf, clo, -⟩ := C2
  have hlt : y.toInt.toNat < xs.length := (List.getElem?_eq_some_iff.mp hv).1
  obtain ⟨hin, hn⟩ := i32_nat (N := xs.length) h0 (by omega)
  obtain ⟨ws, cA, f, ⟨a0, a1, a2, a3, a4, a5, a6, a7⟩, hf, k1, k2⟩ := aRel_refs hR ha hh
  refine va_aldq cx cb (tysOf cK.1 k1 k2) a4 (a - 1) 0 a6 rfl hin hd ?_
  refine kk g p l e R s m args below meth c H locs cells slots Qf lr _ C hc1 hs hR hS hL ⟨?_, z1⟩ hret
  obtain ⟨r, e1, e2⟩ := hf _ hlt
  rw [hv] at e1
  cases e1
  rw [hn, e2]
  cases x with
  | none => trivial
  | some x => rfl
theorem Rn_iastore {a : Nat} {i x : Int} {xs : List Int} (hd : decode M.2.1 pc = .ok (.iastore, 1)) (ha : a ≠ 0) (hh : h a = cI xs) (h0 : 0 ≤ i) (h1 : i < xs.length) (kk : Rn d bc bs M (pc + 1) ls st (up h a (cI (xs.set i.toNat x))) n Q) : Rn d bc bs M pc ls (vI x :: vI i :: vR (some a) :: st) h n Q := by
  intro g p l e R s m args below meth c H locs cells slots Qf lr sr C hc1 hs hR hS hL hst hret
  obtain ⟨w0, t0, rfl, r0, z0⟩ := sRel_cons hst
  obtain ⟨z, rfl, rfl⟩ := vRel_I r0
  obtain ⟨w1, t1, rfl, r1, z1⟩ := sRel_cons z0
  obtain ⟨y, rfl, rfl⟩ := vRel_I r1
  obtain ⟨q2, t2, rfl, r2, z2⟩ := sRel_cons z1
  have := vRel_R r2; subst this
  have C2 := C
  obtain ⟨cx, cb, cml, -, -, co, cw, cK, cf, clo, -⟩ := C2
  obtain ⟨hin, hn⟩ := i32_nat (N := xs.length) h0 h1
  obtain ⟨ws, cA, f, hw, hf, k1, k2⟩ := aRel_int hR ha hh
  refine W.iast cx cb (hw.2.2.2.2.1 (a - 1) _ hw.2.2.2.2.2.2.1) (k1 xs.length (fun j => Value.int (f j))) (fun q => by cases q) (by show ¬ (y < 0 ∨ (arrV _ _ _).slots.size ≤ _); rw [arrV_size]; exact hin) rfl rfl hd fun H1 e1 e2 e3 => ?_
  refine kk g p l e R s m args below meth c H1 _ cells slots Qf lr _ C hc1 hs (aRel_set (e1 := .inl (cA, xs.length, .inl (fun j => if j = y.toInt.toNat then z else f j))) hR hw ⟨by simp, by intro j hj; exact upd_list (F := Int32.toInt) hf j (by rw [List.length_set]; exact hj), k1, k2⟩ ?_ e2 e3) (hS.put e2 e3 (gA_ad ha)) hL z2 hret
  show H1[gAd g a]? = some (vp_cell _ _)
  rw [e1, hn]
  exact congrArg some (arrV_upd cA xs.length _ Value.int f z)
theorem Rn_lastore {a : Nat} {i x : Int} {xs : List Int} (hd : decode M.2.1 pc = .ok (.lastore, 1)) (ha : a ≠ 0) (hh : h a = cJ xs) (h0 : 0 ≤ i) (h1 : i < xs.length) (kk : Rn d bc bs M (pc + 1) ls st (up h a (cJ (xs.set i.toNat x))) n Q) : Rn d bc bs M pc ls (vL x :: vI i :: vR (some a) :: st) h n Q := by
  intro g p l e R s m args below meth c H locs cells slots Qf lr sr C hc1 hs hR hS hL hst hret
  obtain ⟨w0, t0, rfl, r0, z0⟩ := sRel_cons hst
  obtain ⟨z, rfl, rfl⟩ := vRel_L r0
  obtain ⟨w1, t1, rfl, r1, z1⟩ := sRel_cons z0
  obtain ⟨y, rfl, rfl⟩ := vRel_I r1
  obtain ⟨q2, t2, rfl, r2, z2⟩ := sRel_cons z1
  have := vRel_R r2; subst this
  have C2 := C
  obtain ⟨cx, cb, cml, -, -, co, cw, cK, cf, clo, -⟩ := C2
  obtain ⟨hin, hn⟩ := i32_nat (N := xs.length) h0 h1
  obtain ⟨ws, cA, f, hw, hf, k1, k2⟩ := aRel_long hR ha hh
  refine W.last cx cb (hw.2.2.2.2.1 (a - 1) _ hw.2.2.2.2.2.2.1) (k1 xs.length (fun j => Value.long (f j))) (fun q => by cases q) (by show ¬ (y < 0 ∨ (arrV _ _ _).slots.size ≤ _); rw [arrV_size]; exact hin) rfl rfl hd fun H1 e1 e2 e3 => ?_
  refine kk g p l e R s m args below meth c H1 _ cells slots Qf lr _ C hc1 hs (aRel_set (e1 := .inl (cA, xs.length, .inr (.inl (fun j => if j = y.toInt.toNat then z else f j)))) hR hw ⟨by simp, by intro j hj; exact upd_list (F := Int64.toInt) hf j (by rw [List.length_set]; exact hj), k1, k2⟩ ?_ e2 e3) (hS.put e2 e3 (gA_ad ha)) hL z2 hret
  show H1[gAd g a]? = some (vp_cell _ _)
  rw [e1, hn]
  exact congrArg some (arrV_upd cA xs.length _ Value.long f z)
theorem Rn_bastore {a : Nat} {i x : Int} {xs : List Int} (hd : decode M.2.1 pc = .ok (.bastore, 1)) (ha : a ≠ 0) (hh : h a = cZ xs) (h0 : 0 ≤ i) (h1 : i < xs.length) (hx : x = 0 ∨ x = 1) (kk : Rn d bc bs M (pc + 1) ls st (up h a (cZ (xs.set i.toNat x))) n Q) : Rn d bc bs M pc ls (vI x :: vI i :: vR (some a) :: st) h n Q := by
  intro g p l e R s m args below meth c H locs cells slots Qf lr sr C hc1 hs hR hS hL hst hret
  obtain ⟨w0, t0, rfl, r0, z0⟩ := sRel_cons hst
  obtain ⟨z, rfl, rfl⟩ := vRel_I r0
  obtain ⟨w1, t1, rfl, r1, z1⟩ := sRel_cons z0
  obtain ⟨y, rfl, rfl⟩ := vRel_I r1
  obtain ⟨q2, t2, rfl, r2, z2⟩ := sRel_cons z1
  have := vRel_R r2; subst this
  have C2 := C
  obtain ⟨cx, cb, cml, -, -, co, cw, cK, cf, clo, -⟩ := C2
  obtain ⟨hin, hn⟩ := i32_nat (N := xs.length) h0 h1
  obtain ⟨ws, cA, f, hw, hf, k1, k2⟩ := aRel_bool hR ha hh
  have hz := (aOK_nf (g := g) (ty := .boolean) (v := vI z.toInt) (w := .int z) hx rfl).1
  refine W.zast cx cb (hw.2.2.2.2.1 (a - 1) _ hw.2.2.2.2.2.2.1) (k1 xs.length (fun j => Value.int (f j))) (fun q => by cases q) (by show ¬ (y < 0 ∨ (arrV _ _ _).slots.size ≤ _); rw [arrV_size]; exact hin) rfl rfl hd fun H1 e1 e2 e3 => ?_
  rw [hz] at e1
  refine kk g p l e R s m args below meth c H1 _ cells slots Qf lr _ C hc1 hs (aRel_set (e1 := .inl (cA, xs.length, .inl (fun j => if j = y.toInt.toNat then z else f j))) hR hw ⟨by simp, by intro j hj; exact upd_list (F := Int32.toInt) hf j (by rw [List.length_set]; exact hj), k1, k2⟩ ?_ e2 e3) (hS.put e2 e3 (gA_ad ha)) hL z2 hret
  show H1[gAd g a]? = some (vp_cell _ _)
  rw [e1, hn]
  exact congrArg some (arrV_upd cA xs.length _ Value.int f z)
theorem qName_cl {k : Nat} (hk : k = 6 ∨ k = 10) : ∃ T N, vwCl[k]? = some (qName k, T, N) := by
  rcases hk with rfl | rfl
  · exact ⟨TX6, 5, rfl⟩
  · exact ⟨TX10, 3, rfl⟩
theorem Rn_aastore {a b k : Nat} {i : Int} {xs : List (Option Nat)} {fs : List aV} (hk : k = 6 ∨ k = 10) (hd : decode M.2.1 pc = .ok (.aastore, 1)) (ha : a ≠ 0) (hh : h a = cQ k xs) (hb : h b = cO k fs) (h0 : 0 ≤ i) (h1 : i < xs.length) (kk : Rn d bc bs M (pc + 1) ls st (up h a (cQ k (xs.set i.toNat (some b)))) n Q) : Rn d bc bs M pc ls (vR (some b) :: vI i :: vR (some a) :: st) h n Q := by
  intro g p l e R s m args below meth c H locs cells slots Qf lr sr C hc1 hs hR hS hL hst hret
  obtain ⟨w0, t0, rfl, r0, z0⟩ := sRel_cons hst
  have := vRel_R r0; subst this
  obtain ⟨w1, t1, rfl, r1, z1⟩ := sRel_cons z0
  obtain ⟨y, rfl, rfl⟩ := vRel_I r1
  obtain ⟨q2, t2, rfl, r2, z2⟩ := sRel_cons z1
  have := vRel_R r2; subst this
  have C2 := C
  obtain ⟨cx, cb, cml, -, -, co, cw, cK, cf, clo, -⟩ := C2
  obtain ⟨hin, hn⟩ := i32_nat (N := xs.length) h0 h1
  obtain ⟨ws, cA, f, hw, hf, k1, k2⟩ := aRel_refs hR ha hh
  obtain ⟨wsb, frb, hwb, -⟩ := aRel_obj hR hb (by rcases hk with rfl | rfl <;> decide)
  obtain ⟨T, N, hcl⟩ := qName_cl hk
  obtain ⟨r', hr', cellV, g1, g2, g3, -⟩ := hwb.2.2.2.2.1 _ _ hwb.2.2.2.2.2.2.1
  have hr'' : r' = (qName k, T, N) := Option.some.inj (hr'.symm.trans hcl)
  subst hr''
  have hcls := (cK.1.1 k _ hcl).2
  obtain ⟨kA, comp, j1, j2, j3, j4⟩ := k2
  have hlt : y.toNatClampNeg < xs.length := by rw [hn]; omega
  have hcomp : comp = (gD g).1 k := Option.some.inj (j3.symm.trans hcls.1)
  subst hcomp
  obtain ⟨kC, hkC, -⟩ := hcls.2
  refine W.aast cx cb (hw.2.2.2.2.1 (a - 1) _ hw.2.2.2.2.2.2.1) (fun q h => by cases h) (fun h => by cases h) j1 j2 rfl hkC ⟨fun q => hin (Or.inl q), by show _ < (arrV _ _ _).slots.size; rw [arrV_size]; exact hlt⟩ g1 (fun q h => by rw [g3] at h; cases h) (by rw [g2]; exact hkC) (by rw [g2]; exact va_assign hcls) rfl rfl hd fun H1 e1 e2 e3 => ?_
  refine kk g p l e R s m args below meth c H1 _ cells slots Qf lr _ C hc1 hs (aRel_set (e1 := .inl (cA, xs.length, .inr (.inr (.inr (.inr (fun j => if j = y.toInt.toNat then some (gAd g b) else f j)))))) hR hw ⟨by simp, ?_, k1, ⟨kA, _, j1, j2, j3, j4⟩⟩ ?_ e2 e3) (hS.put e2 e3 (gA_ad ha)) hL z2 hret
  · intro j hj
    by_cases q : y.toInt.toNat = j
    · subst q
      exact ⟨some b, by rw [List.getElem?_set_self hj], by show (if _ = _ then _ else _) = _; rw [if_pos rfl]; rfl⟩
    · obtain ⟨r, f1, f2⟩ := hf j hj
      exact ⟨r, by rw [List.getElem?_set_ne q]; exact f1, by show (if _ = _ then _ else _) = _; rw [if_neg (fun e => q e.symm)]; exact f2⟩
  · show H1[gAd g a]? = some (vp_cell _ _)
    rw [e1, hn]
    exact congrArg some (arrV_upd cA xs.length _ va_rf f (some (gAd g b)))
theorem Rn_alenI {a : Nat} {xs : List Int} (hd : decode M.2.1 pc = .ok (.arraylength, 1)) (ha : a ≠ 0) (hh : h a = cI xs) (hz : xs.length < 2147483648) (kk : Rn d bc bs M (pc + 1) ls (vI (xs.length : Int) :: st) h n Q) : Rn d bc bs M pc ls (vR (some a) :: st) h n Q := by
  intro g p l e R s m args below meth c H locs cells slots Qf lr sr C hc1 hs hR hS hL hst hret
  obtain ⟨q1, t1, rfl, r1, z1⟩ := sRel_cons hst
  have := vRel_R r1; subst this
  have C2 := C
  obtain ⟨cx, cb, cml, -, -, co, cw, cK, cf, clo, -⟩ := C2
  obtain ⟨ws, cA, f, hw, hf, k1, k2⟩ := aRel_int hR ha hh
  refine va_alen cx cb (tysOf cK.1 k1 k2) hw.2.2.2.2.1 (a - 1) 0 hw.2.2.2.2.2.2.1 rfl rfl hd ?_
  exact kk g p l e R s m args below meth c H locs cells slots Qf lr _ C hc1 hs hR hS hL ⟨Int32.toInt_ofNat_of_lt hz, z1⟩ hret
theorem Rn_alenJ {a : Nat} {xs : List Int} (hd : decode M.2.1 pc = .ok (.arraylength, 1)) (ha : a ≠ 0) (hh : h a = cJ xs) (hz : xs.length < 2147483648) (kk : Rn d bc bs M (pc + 1) ls (vI (xs.length : Int) :: st) h n Q) : Rn d bc bs M pc ls (vR (some a) :: st) h n Q := by
  intro g p l e R s m args below meth c H locs cells slots Qf lr sr C hc1 hs hR hS hL hst hret
  obtain ⟨q1, t1, rfl, r1, z1⟩ := sRel_cons hst
  have := vRel_R r1; subst this
  have C2 := C
  obtain ⟨cx, cb, cml, -, -, co, cw, cK, cf, clo, -⟩ := C2
  obtain ⟨ws, cA, f, hw, hf, k1, k2⟩ := aRel_long hR ha hh
  refine va_alen cx cb (tysOf cK.1 k1 k2) hw.2.2.2.2.1 (a - 1) 0 hw.2.2.2.2.2.2.1 rfl rfl hd ?_
  exact kk g p l e R s m args below meth c H locs cells slots Qf lr _ C hc1 hs hR hS hL ⟨Int32.toInt_ofNat_of_lt hz, z1⟩ hret
theorem Rn_alenZ {a : Nat} {xs : List Int} (hd : decode M.2.1 pc = .ok (.arraylength, 1)) (ha : a ≠ 0) (hh : h a = cZ xs) (hz : xs.length < 2147483648) (kk : Rn d bc bs M (pc + 1) ls (vI (xs.length : Int) :: st) h n Q) : Rn d bc bs M pc ls (vR (some a) :: st) h n Q := by
  intro g p l e R s m args below meth c H locs cells slots Qf lr sr C hc1 hs hR hS hL hst hret
  obtain ⟨q1, t1, rfl, r1, z1⟩ := sRel_cons hst
  have := vRel_R r1; subst this
  have C2 := C
  obtain ⟨cx, cb, cml, -, -, co, cw, cK, cf, clo, -⟩ := C2
  obtain ⟨ws, cA, f, hw, hf, k1, k2⟩ := aRel_bool hR ha hh
  refine va_alen cx cb (tysOf cK.1 k1 k2) hw.2.2.2.2.1 (a - 1) 0 hw.2.2.2.2.2.2.1 rfl rfl hd ?_
  exact kk g p l e R s m args below meth c H locs cells slots Qf lr _ C hc1 hs hR hS hL ⟨Int32.toInt_ofNat_of_lt hz, z1⟩ hret
theorem Rn_alenQ {a : Nat} {k : Nat} {xs : List (Option Nat)} (hd : decode M.2.1 pc = .ok (.arraylength, 1)) (ha : a ≠ 0) (hh : h a = cQ k xs) (hz : xs.length < 2147483648) (kk : Rn d bc bs M (pc + 1) ls (vI (xs.length : Int) :: st) h n Q) : Rn d bc bs M pc ls (vR (some a) :: st) h n Q := by
  intro g p l e R s m args below meth c H locs cells slots Qf lr sr C hc1 hs hR hS hL hst hret
  obtain ⟨q1, t1, rfl, r1, z1⟩ := sRel_cons hst
  have := vRel_R r1; subst this
  have C2 := C
  obtain ⟨cx, cb, cml, -, -, co, cw, cK, cf, clo, -⟩ := C2
  obtain ⟨ws, cA, f, hw, hf, k1, k2⟩ := aRel_refs hR ha hh
  refine va_alen cx cb (tysOf cK.1 k1 k2) hw.2.2.2.2.1 (a - 1) 0 hw.2.2.2.2.2.2.1 rfl rfl hd ?_
  exact kk g p l e R s m args below meth c H locs cells slots Qf lr _ C hc1 hs hR hS hL ⟨Int32.toInt_ofNat_of_lt hz, z1⟩ hret
theorem Rn_alen0 {xs : List Int} (hd : decode M.2.1 pc = .ok (.arraylength, 1)) (hh : h 0 = cI xs) (hz : xs.length < 2147483648) (kk : Rn d bc bs M (pc + 1) ls (vI (xs.length : Int) :: st) h n Q) : Rn d bc bs M pc ls (vR (some 0) :: st) h n Q := by
  intro g p l e R s m args below meth c H locs cells slots Qf lr sr C hc1 hs hR hS hL hst hret
  obtain ⟨q1, t1, rfl, r1, z1⟩ := sRel_cons hst
  have := vRel_R r1; subst this
  have C2 := C
  obtain ⟨cx, cb, cml, -, -, co, cw, cK, cf, clo, -⟩ := C2
  obtain ⟨e1, e2⟩ := aScr hR hh
  have hX := cK.2.2.2.2.1
  have hX2 := hX
  obtain ⟨scr, hscr, -⟩ := hX2
  refine va_slen (A := gA g) cx cb hX (Array.getElem?_eq_some_iff.mp hscr).1 (fun (q : gB g < gb g) => Nat.not_lt.mpr cK.2.2.2.2.2.1 q) hS hd ?_
  rw [← e1]
  exact kk g p l e R s m args below meth c H locs cells slots Qf lr _ C hc1 hs hR hS hL ⟨Int32.toInt_ofNat_of_lt hz, z1⟩ hret
theorem Rn_newarrI {bc1 bs1 N : Nat} (hb1 : bc + 1 ≤ bc1) (hb2 : bs + N ≤ bs1) (hw : Cond.arrayClass .int ∈ aGT) (hd : decode M.2.1 pc = .ok (.newarray .int, 2)) (hN : N ≤ 60000000) (kk : Rn d bc bs M (pc + 2) ls (vR (some n) :: st) (up h n (cI (List.replicate N 0))) (n + 1) Q) : Rn d bc1 bs1 M pc ls (vI (N : Int) :: st) h n Q := by
  intro g p l e R s m args below meth c H locs cells slots Qf lr sr C hc1 hs hR hS hL hst hret
  obtain ⟨w, t0, rfl, r0, z0⟩ := sRel_cons hst
  obtain ⟨y, rfl, ey⟩ := vRel_I r0
  have C2 := C
  obtain ⟨cx, cb, cml, -, -, co, cw, cK, cf, clo, -⟩ := C2
  have hy : y.toNatClampNeg = N := by show y.toInt.toNat = N; omega
  have hn0 : 1 ≤ n := hR.2.1
  have hsz : H.size = gAd g n := by rw [gAd_pos (by omega), hR.1]
  refine va_newaK (atype := .int) cx cb (cw _ hw) rfl hd rfl (fun q => by have := Int32.lt_iff_toInt_lt.mp q; have e : (0 : Int32).toInt = 0 := rfl; omega) hy (by show N * _ ≤ _; simp only [newarray.typeOf, componentBytes]; omega) (by omega) (by omega) hsz fun H1 cA e1 e2 e3 k1 k2 => ?_
  refine kk g p l e R s m args below meth c H1 locs (cells + 1) (slots + N) Qf lr _ C (by omega) (by omega) (aRel_push (e1 := .inl (cA, N, .inl (fun _ => 0))) hR ⟨by simp, ?_, k1, k2⟩ ?_ (by rw [hsz]; exact e2) (by rw [hsz]; exact e3)) ⟨by have := hS.1; omega, fun q h1 h2 => by rw [e3 q (by have := hS.1; omega)]; exact hS.2.1 q h1 h2, hS.2.2⟩ hL ⟨rfl, z0⟩ (fun H1 locs1 cells1 slots1 lr1 pc1 v vr h1 n1 b1 b2 => hret H1 locs1 cells1 slots1 lr1 pc1 v vr h1 n1 (by omega) (by omega))
  · intro j hj
    rw [List.getElem?_replicate, if_pos hj]; rfl
  · show H1[gAd g n]? = some (vp_cell _ _)
    rw [e1]; rfl
theorem Rn_newarrJ {bc1 bs1 N : Nat} (hb1 : bc + 1 ≤ bc1) (hb2 : bs + N ≤ bs1) (hw : Cond.arrayClass .long ∈ aGT) (hd : decode M.2.1 pc = .ok (.newarray .long, 2)) (hN : N ≤ 60000000) (kk : Rn d bc bs M (pc + 2) ls (vR (some n) :: st) (up h n (cJ (List.replicate N 0))) (n + 1) Q) : Rn d bc1 bs1 M pc ls (vI (N : Int) :: st) h n Q := by
  intro g p l e R s m args below meth c H locs cells slots Qf lr sr C hc1 hs hR hS hL hst hret
  obtain ⟨w, t0, rfl, r0, z0⟩ := sRel_cons hst
  obtain ⟨y, rfl, ey⟩ := vRel_I r0
  have C2 := C
  obtain ⟨cx, cb, cml, -, -, co, cw, cK, cf, clo, -⟩ := C2
  have hy : y.toNatClampNeg = N := by show y.toInt.toNat = N; omega
  have hn0 : 1 ≤ n := hR.2.1
  have hsz : H.size = gAd g n := by rw [gAd_pos (by omega), hR.1]
  refine va_newaK (atype := .long) cx cb (cw _ hw) rfl hd rfl (fun q => by have := Int32.lt_iff_toInt_lt.mp q; have e : (0 : Int32).toInt = 0 := rfl; omega) hy (by show N * _ ≤ _; simp only [newarray.typeOf, componentBytes]; omega) (by omega) (by omega) hsz fun H1 cA e1 e2 e3 k1 k2 => ?_
  refine kk g p l e R s m args below meth c H1 locs (cells + 1) (slots + N) Qf lr _ C (by omega) (by omega) (aRel_push (e1 := .inl (cA, N, .inr (.inl (fun _ => 0)))) hR ⟨by simp, ?_, k1, k2⟩ ?_ (by rw [hsz]; exact e2) (by rw [hsz]; exact e3)) ⟨by have := hS.1; omega, fun q h1 h2 => by rw [e3 q (by have := hS.1; omega)]; exact hS.2.1 q h1 h2, hS.2.2⟩ hL ⟨rfl, z0⟩ (fun H1 locs1 cells1 slots1 lr1 pc1 v vr h1 n1 b1 b2 => hret H1 locs1 cells1 slots1 lr1 pc1 v vr h1 n1 (by omega) (by omega))
  · intro j hj
    rw [List.getElem?_replicate, if_pos hj]; rfl
  · show H1[gAd g n]? = some (vp_cell _ _)
    rw [e1]; rfl
theorem Rn_newarrZ {bc1 bs1 N : Nat} (hb1 : bc + 1 ≤ bc1) (hb2 : bs + N ≤ bs1) (hw : Cond.arrayClass .boolean ∈ aGT) (hd : decode M.2.1 pc = .ok (.newarray .boolean, 2)) (hN : N ≤ 60000000) (kk : Rn d bc bs M (pc + 2) ls (vR (some n) :: st) (up h n (cZ (List.replicate N 0))) (n + 1) Q) : Rn d bc1 bs1 M pc ls (vI (N : Int) :: st) h n Q := by
  intro g p l e R s m args below meth c H locs cells slots Qf lr sr C hc1 hs hR hS hL hst hret
  obtain ⟨w, t0, rfl, r0, z0⟩ := sRel_cons hst
  obtain ⟨y, rfl, ey⟩ := vRel_I r0
  have C2 := C
  obtain ⟨cx, cb, cml, -, -, co, cw, cK, cf, clo, -⟩ := C2
  have hy : y.toNatClampNeg = N := by show y.toInt.toNat = N; omega
  have hn0 : 1 ≤ n := hR.2.1
  have hsz : H.size = gAd g n := by rw [gAd_pos (by omega), hR.1]
  refine va_newaK (atype := .boolean) cx cb (cw _ hw) rfl hd rfl (fun q => by have := Int32.lt_iff_toInt_lt.mp q; have e : (0 : Int32).toInt = 0 := rfl; omega) hy (by show N * _ ≤ _; simp only [newarray.typeOf, componentBytes]; omega) (by omega) (by omega) hsz fun H1 cA e1 e2 e3 k1 k2 => ?_
  refine kk g p l e R s m args below meth c H1 locs (cells + 1) (slots + N) Qf lr _ C (by omega) (by omega) (aRel_push (e1 := .inl (cA, N, .inl (fun _ => 0))) hR ⟨by simp, ?_, k1, k2⟩ ?_ (by rw [hsz]; exact e2) (by rw [hsz]; exact e3)) ⟨by have := hS.1; omega, fun q h1 h2 => by rw [e3 q (by have := hS.1; omega)]; exact hS.2.1 q h1 h2, hS.2.2⟩ hL ⟨rfl, z0⟩ (fun H1 locs1 cells1 slots1 lr1 pc1 v vr h1 n1 b1 b2 => hret H1 locs1 cells1 slots1 lr1 pc1 v vr h1 n1 (by omega) (by omega))
  · intro j hj
    rw [List.getElem?_replicate, if_pos hj]; rfl
  · show H1[gAd g n]? = some (vp_cell _ _)
    rw [e1]; rfl
theorem Rn_newarrQ {k bc1 bs1 N idx : Nat} (hk : k = 6 ∨ k = 10) (hb1 : bc + 1 ≤ bc1) (hb2 : bs + N ≤ bs1) (hw : Cond.classLink M.1.cls idx (qName k) ∈ aGT) (hd : decode M.2.1 pc = .ok (.anewarray idx, 3)) (hN : N ≤ 100000000) (kk : Rn d bc bs M (pc + 3) ls (vR (some n) :: st) (up h n (cQ k (List.replicate N none))) (n + 1) Q) : Rn d bc1 bs1 M pc ls (vI (N : Int) :: st) h n Q := by
  intro g p l e R s m args below meth c H locs cells slots Qf lr sr C hc1 hs hR hS hL hst hret
  obtain ⟨w, t0, rfl, r0, z0⟩ := sRel_cons hst
  obtain ⟨y, rfl, ey⟩ := vRel_I r0
  have C2 := C
  obtain ⟨cx, cb, cml, -, -, co, cw, cK, cf, clo, -⟩ := C2
  have hy : y.toNatClampNeg = N := by show y.toInt.toNat = N; omega
  have hn0 : 1 ≤ n := hR.2.1
  have hsz : H.size = gAd g n := by rw [gAd_pos (by omega), hR.1]
  have hAO : va_AO (qName k) s := by rcases hk with rfl | rfl; exact cK.2.2.1; exact cK.2.2.2.1
  refine W.anew cx cb co (cw _ hw) (va_AO.use hAO) rfl hd rfl (fun q => by have := Int32.lt_iff_toInt_lt.mp q; have e : (0 : Int32).toInt = 0 := rfl; omega) (by rw [hy]; omega) (by omega) (by rw [hy]; omega) fun cA kA comp f1 f2 f3 f4 => ?_
  rw [hy]
  generalize hH1 : H.push ({ cls := cA, slots := Array.replicate N .null, vm := .none } : Cell) = H1
  have e2 : H1.size = H.size + 1 := by rw [← hH1, Array.size_push]
  have e1 : H1[H.size]? = some (arrV cA N (fun _ => .null)) := by rw [← hH1, Array.getElem?_push_size, ← arrV_new]
  have e3 : ∀ q : Nat, q < H.size → H1[q]? = H[q]? := fun q hq => by rw [← hH1, Array.getElem?_push, if_neg (Nat.ne_of_lt hq)]
  have k1 : ArrOfT s cA (.object (qName k)) := fun N z => ⟨(fun k h => by cases h), kA, f2, comp, f3⟩
  refine kk g p l e R s m args below meth c H1 locs (cells + 1) (slots + N) Qf lr _ C (by omega) (by omega) (aRel_push (e1 := .inl (cA, N, .inr (.inr (.inr (.inr (fun _ => none)))))) hR ⟨by simp, ?_, k1, ⟨kA, comp, f2, f3, f4, f1⟩⟩ ?_ e2 e3) ⟨by have := hS.1; omega, fun q h1 h2 => by rw [e3 q (by have := hS.1; omega)]; exact hS.2.1 q h1 h2, hS.2.2⟩ hL ⟨hsz, z0⟩ (fun H1 locs1 cells1 slots1 lr1 pc1 v vr h1 n1 b1 b2 => hret H1 locs1 cells1 slots1 lr1 pc1 v vr h1 n1 (by omega) (by omega))
  · intro j hj
    exact ⟨none, by rw [List.getElem?_replicate, if_pos hj], rfl⟩
  · show H1[gAd g n]? = some (vp_cell _ _)
    rw [← hsz, e1]; rfl
def dV : FieldType → aV
  | .long => vL 0
  | .object _ => vR none
  | .array _ => vR none
  | _ => vI 0
def nfl : FieldType → Bool
  | .float => false
  | .double => false
  | _ => true
theorem dV_rel {g : aG} {t : FieldType} (h : nfl t = true) : vRel g (dV t) (defaultValue t) := by
  cases t <;> first | rfl | trivial | cases h
theorem dV_rels {g : aG} (ty : Nat → FieldType) : ∀ (l : List Nat), (∀ k ∈ l, nfl (ty k) = true) → sRel g (l.map fun k => dV (ty k)) (l.map fun k => defaultValue (ty k)) := by
  intro l
  induction l with
  | nil => intro _; trivial
  | cons a l ih => intro h; exact ⟨dV_rel (h a List.mem_cons_self), ih (fun k hk => h k (List.mem_cons_of_mem _ hk))⟩
theorem Rn_new {ci bc1 bs1 N idx : Nat} {C0 : String} {T : u_T} {ty : Nat → FieldType} {fs : List aV} (hb1 : bc + 1 ≤ bc1) (hb2 : bs + N ≤ bs1) (hd : decode M.2.1 pc = .ok (.new idx, 3)) (hc : vwCl[ci]? = some (C0, T, N)) (hin : ∀ w ∈ u_ws C0 T N, w ∈ aGT) (hty : ∀ k, k < N → parseFieldDescriptor (T k).2.2.1 = some (ty k)) (hnf : ∀ k, k < N → nfl (ty k) = true) (hcl : Cond.classLink M.1.cls idx C0 ∈ aGT) (hins : Cond.instantiable C0 N ∈ aGT) (hini : Cond.initialized C0 ∈ aGT) (hfs : (List.range N).map (fun k => dV (ty k)) = fs) (kk : Rn d bc bs M (pc + 3) ls (vR (some n) :: st) (up h n (cO ci fs)) (n + 1) Q) : Rn d bc1 bs1 M pc ls st h n Q := by
  intro g p l e R s m args below meth c H locs cells slots Qf lr sr C hc1 hs hR hS hL hst hret
  have C2 := C
  obtain ⟨cx, cb, cml, -, -, co, cw, cK, cf, clo, -⟩ := C2
  subst hfs
  have hn0 : 1 ≤ n := hR.2.1
  have hsz : H.size = gAd g n := by rw [gAd_pos (by omega), hR.1]
  have hKn := cK.1.1 ci _ hc
  refine W.newcK cx cb co (cw _ hcl) (cw _ hins) (cw _ hini) rfl hd (by omega) (by omega) hKn.2.1 hsz fun H1 kC f1 e1 e2 e3 => ?_
  have hborn := u_born ty cw hin hKn f1 e1 hty
  refine kk g p l e R s m args below meth c H1 locs (cells + 1) (slots + N) Qf lr _ C (by omega) (by omega) (aRel_push (e1 := .inr (ci, (List.range N).map fun k => defaultValue (ty k))) hR ⟨rfl, dV_rels ty _ (fun k hk => hnf k (List.mem_range.mp hk))⟩ ⟨_, hc, t_OB.to hborn (fun k hk => ?_)⟩ (by rw [hsz]; exact e2) (by rw [hsz]; exact e3)) ⟨by have := hS.1; omega, fun q h1 h2 => by rw [e3 q (by have := hS.1; omega)]; exact hS.2.1 q h1 h2, hS.2.2⟩ hL ⟨rfl, hst⟩ (fun H1 locs1 cells1 slots1 lr1 pc1 v vr h1 n1 b1 b2 => hret H1 locs1 cells1 slots1 lr1 pc1 v vr h1 n1 (by omega) (by omega))
  have hk : k < N := hk
  simp [vp_V, hk]
theorem Rn_objInit {a idx : Nat} (hd : decode M.2.1 pc = .ok (.invokespecial idx, 3)) (hl : Cond.methodLink M.1.cls idx Lib.objectInit ∈ aGT) (hi : Cond.instanceMethod Lib.objectInit ∈ aGT) (hc : Cond.code Lib.objectInit ⟨#[0xb1]⟩ 1 none ∈ aGT) (h8 : (st.map aCat).sum ≤ 8) (kk : Rn (d + 1) bc bs M (pc + 3) ls st h n Q) : Rn (d + 1) bc bs M pc ls (vR (some a) :: st) h n Q := by
  intro g p l e R s m args below meth c H locs cells slots Qf lr sr C hc1 hs hR hS hL hst hret
  obtain ⟨q1, t1, rfl, r1, z1⟩ := sRel_cons hst
  have := vRel_R r1; subst this
  have C2 := C
  obtain ⟨cx, cb, cml, -, -, co, cw, cK, cf, clo, -⟩ := C2
  refine W.objInit cx cb co (cw _ hl) (cw _ hi) (cw _ hc) rfl (by rw [cml]; exact hL.1) rfl hd (by omega) (by rw [sRel_sum z1]; show 2 * 0 + _ + 12 ≤ _; omega) ?_
  exact kk g p l e R s m args below meth c H locs cells slots Qf lr _ C hc1 hs hR hS hL z1 hret
end RULES
