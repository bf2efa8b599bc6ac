/-! Rows over the one text that the class holds, and the copy of a row of ints. -/
section RULES
variable {d bc bs : Nat} {M : aM} {pc : Nat} {ls : aL} {st : List aV} {h : aH} {n : Nat} {Q : aQ}
theorem Rn_gvalue {idx : Nat} (hd : decode M.2.1 pc = .ok (.getfield idx, 3)) (hlink : Cond.fieldLink M.1.cls idx "java/lang/String" "value" "[B" ∈ aGT) (kk : Rn d bc bs M (pc + 3) ls (vB :: st) h n Q) : Rn d bc bs M pc ls (vT :: st) h n Q := by
  intro g p l e R s m args below meth c H locs cells slots Qf lr sr C hc1 hs hR hS hL hst hret
  obtain ⟨q0, t0, rfl, r0, z0⟩ := sRel_cons hst
  have := vRel_T r0; subst this
  obtain ⟨cx, cb, cml, -, -, co, cw, cK, cf, clo, -⟩ := id C
  refine vk_getf cx cb (cK.2.2.2.2.2.2.1.1 0 (by decide)).2.2.1 hS co (cw _ hlink) (fun _ q => q) hd ?_
  exact kk g p l e R s m args below meth c H locs cells slots Qf lr _ C hc1 hs hR hS hL ⟨vRel_b, z0⟩ hret
theorem Rn_gcoder {idx : Nat} (hd : decode M.2.1 pc = .ok (.getfield idx, 3)) (hlink : Cond.fieldLink M.1.cls idx "java/lang/String" "coder" "B" ∈ aGT) (kk : Rn d bc bs M (pc + 3) ls (vI 0 :: st) h n Q) : Rn d bc bs M pc ls (vT :: st) h n Q := by
  intro g p l e R s m args below meth c H locs cells slots Qf lr sr C hc1 hs hR hS hL hst hret
  obtain ⟨q0, t0, rfl, r0, z0⟩ := sRel_cons hst
  have := vRel_T r0; subst this
  obtain ⟨cx, cb, cml, -, -, co, cw, cK, cf, clo, -⟩ := id C
  refine vk_getf cx cb (cK.2.2.2.2.2.2.1.1 0 (by decide)).2.1 hS co (cw _ hlink) (fun _ q => q) hd ?_
  exact kk g p l e R s m args below meth c H locs cells slots Qf lr _ C hc1 hs hR hS hL ⟨rfl, z0⟩ hret
theorem Rn_alenB (hd : decode M.2.1 pc = .ok (.arraylength, 1)) (kk : Rn d bc bs M (pc + 1) ls (vI 129 :: st) h n Q) : Rn d bc bs M pc ls (vB :: st) h n Q := by
  intro g p l e R s m args below meth c H locs cells slots Qf lr sr C hc1 hs hR hS hL hst hret
  obtain ⟨q0, t0, rfl, r0, z0⟩ := sRel_cons hst
  have := vRel_B r0; subst this
  obtain ⟨cx, cb, cml, -, -, co, cw, cK, cf, clo, -⟩ := id C
  obtain ⟨cell, h1, h2, h3, h4, h5, h6, h7⟩ := (cK.2.2.2.2.2.2.1.1 0 (by decide)).2.2.2.kept hS.2.1
  refine W.alen cx cb h1 h2 h5 rfl rfl hd ?_
  exact kk g p l e R s m args below meth c H locs cells slots Qf lr _ C hc1 hs hR hS hL ⟨rfl, z0⟩ hret
theorem aWords_at : ∀ k : Fin 129, (aWordsB.getD k 0).toInt = aWordsL.getD k 0 ∧ 0 ≤ aWordsL.getD k 0 ∧ aWordsL.getD k 0 < 128 := by decide +kernel
theorem Rn_baloadB {i x : Int} (hd : decode M.2.1 pc = .ok (.baload, 1)) (h0 : 0 ≤ i) (hv : aWordsL[i.toNat]? = some x) (kk : Rn d bc bs M (pc + 1) ls (vI x :: st) h n Q) : Rn d bc bs M pc ls (vI i :: vB :: st) h n Q := by
  intro g p l e R s m args below meth c H locs cells slots Qf lr sr C hc1 hs hR hS hL hst hret
  obtain ⟨q0, t0, rfl, r0, z0⟩ := sRel_cons hst
  obtain ⟨y, rfl, rfl⟩ := vRel_I r0
  obtain ⟨q1, t1, rfl, r1, z1⟩ := sRel_cons z0
  have := vRel_B r1; subst this
  obtain ⟨cx, cb, cml, -, -, co, cw, cK, cf, clo, -⟩ := id C
  obtain ⟨cell, h1, h2, h3, h4, h5, h6, h7⟩ := (cK.2.2.2.2.2.2.1.1 0 (by decide)).2.2.2.kept hS.2.1
  have hlt : y.toInt.toNat < 129 := (List.getElem?_eq_some_iff.mp hv).1
  have hn : y.toNatClampNeg = y.toInt.toNat := rfl
  have h6 := h6 y.toInt.toNat hlt
  have hz : cell.slots.size = cell.slots.size := rfl
  refine W.bald cx cb h1 h2 h3 (fun q => ?_) (by rw [hn]; exact h6) rfl rfl hd ?_
  · rcases q with q | q
    · exact nn32 h0 q
    · have := (Array.getElem?_eq_some_iff.mp h6).1
      omega
  · refine kk g p l e R s m args below meth c H locs cells slots Qf lr _ C hc1 hs hR hS hL ⟨?_, z1⟩ hret
    have := (aWords_at ⟨y.toInt.toNat, hlt⟩).1
    show Int32.toInt _ = x
    have e2 : aWordsL.getD y.toInt.toNat 0 = x := by rw [List.getD_eq_getElem?_getD, hv]; rfl
    rw [← e2]
    exact this
theorem Rn_getsC {idx : Nat} (hd : decode M.2.1 pc = .ok (.getstatic idx, 3)) (hlink : Cond.fieldLink M.1.cls idx "java/lang/String" "COMPACT_STRINGS" "Z" ∈ aGT) (kk : Rn d bc bs M (pc + 3) ls (vI 1 :: st) h n Q) : Rn d bc bs M pc ls st h n Q := by
  intro g p l e R s m args below meth c H locs cells slots Qf lr sr C hc1 hs hR hS hL hst hret
  obtain ⟨cx, cb, cml, -, -, co, cw, cK, cf, clo, -⟩ := id C
  refine va_gets cx cb cK.2.2.2.2.2.2.2.2.1 hS co (cw _ hlink) (fun _ q => q) hd ?_
  exact kk g p l e R s m args below meth c H locs cells slots Qf lr _ C hc1 hs hR hS hL ⟨rfl, hst⟩ hret
theorem Rn_getsO {idx : Nat} (hd : decode M.2.1 pc = .ok (.getstatic idx, 3)) (hlink : Cond.fieldLink M.1.cls idx "jdk/internal/util/Preconditions" "SIOOBE_FORMATTER" "Ljava/util/function/BiFunction;" ∈ aGT) (kk : Rn d bc bs M (pc + 3) ls (vO :: st) h n Q) : Rn d bc bs M pc ls st h n Q := by
  intro g p l e R s m args below meth c H locs cells slots Qf lr sr C hc1 hs hR hS hL hst hret
  obtain ⟨cx, cb, cml, -, -, co, cw, cK, cf, clo, -⟩ := id C
  rcases cK.2.2.2.2.2.2.2.2.2.1 with hz | ⟨t, hz⟩
  · refine va_gets cx cb hz hS co (cw _ hlink) (fun _ q => q) hd ?_
    exact kk g p l e R s m args below meth c H locs cells slots Qf lr _ C hc1 hs hR hS hL ⟨Or.inr (Or.inr ⟨rfl, Or.inl rfl⟩), hst⟩ hret
  · refine va_gets cx cb hz hS co (cw _ hlink) (fun _ q => q) hd ?_
    exact kk g p l e R s m args below meth c H locs cells slots Qf lr _ C hc1 hs hR hS hL ⟨Or.inr (Or.inr ⟨rfl, Or.inr ⟨t, rfl⟩⟩), hst⟩ hret
set_option maxHeartbeats 400000 in
/-- a method of the text -/
theorem Rn_callT {N : aM} {np idx bc1 bs1 bc2 bs2 : Nat} {avs : List aV} {ls1 : aL} (F : aFix N np) (hN : N.1.cls = "java/lang/String") (hd : decode M.2.1 pc = .ok (.invokevirtual idx, 3)) (hlink : Cond.methodLink M.1.cls idx N.1 ∈ aGT) (hinst : Cond.instanceMethod N.1 ∈ aGT) (hsel : Cond.selects N.1.cls N.1 N.1 ∈ aGT)
    (hnp : avs.length = np) (hen : (aEn (vT :: avs)).length ≤ N.2.2.1) (h8 : (st.map aCat).sum ≤ 8) (hb1 : bc1 + bc2 ≤ bc) (hb2 : bs1 + bs2 ≤ bs) (hls : aEnt (vT :: avs) N.2.2.1 = ls1)
    (kk : Rn d bc1 bs1 N 0 ls1 [] h n (fun v h1 n1 => Rn (d + 1) bc2 bs2 M (pc + 3) ls (v.toList ++ st) h1 n1 Q)) : Rn (d + 1) bc bs M pc ls (avs.reverse ++ vT :: st) h n Q := by
  intro g p l e R s m args below meth c H locs cells slots Qf lr sr C hc1 hs hR hS hL hst hret
  subst hls
  obtain ⟨w1, w2, rfl, z1, z2⟩ := sRel_app hst
  obtain ⟨q3, w3, rfl, z3, z4⟩ := sRel_cons z2
  have := vRel_T z3; subst this
  have hA : sRel g (vT :: avs) (.ref (gt g) :: w1.reverse) := ⟨vRel_t, by have := sRel_rev z1; rwa [List.reverse_reverse] at this⟩
  obtain ⟨cx, cb, cml, -, -, co, cw, cK, cf, clo, -⟩ := id C
  obtain ⟨P1, P2⟩ := aPre hR cK hS hA
  have hrec := vk_recv cK.2.2.2.2.2.2.1 (i := 0) (by decide) hS
  have hM := Rn.met F.1 hen l g kk
  refine aBehind (mc := bc1) (ms := bs1) (va_runV (C := N.1.cls) (b := gt g) (As := w1.reverse) (rest := w3) ⟨cx, cb, cml, co, cw⟩ hM ⟨callB_of np cw (aFix_good F) rfl rfl rfl (cw _ F.2.2.2.1) (cw _ hlink) ⟨F.2.2.2.2.1.1, F.2.2.2.2.1.2, F.2.2.2.2.2⟩ (aRoom F bc1 bs1 cf clo), cw _ hinst, cw _ hsel⟩ ⟨P1, by rw [hN]; exact hrec, P2⟩ rfl (by rw [List.length_reverse, sRel_len z1, List.length_reverse]; exact hnp) hL.1 (by rw [List.reverse_reverse]) (lv_room (by rw [sRel_sum z4]; exact h8)) hd ⟨by omega, by omega⟩) hS (fun v vr h1 n1 H1 locs1 y1 y2 y3 y4 => ?_)
  refine y2 g p l e R s m args below meth c H1 locs1 (cells + bc1) (slots + bs1) Qf lr _ C (by omega) (by omega) y3 y4 hL (sRel_cat ?_ z4) (fun H1 locs1 cells1 slots1 lr1 pc1 v vr h1 n1 b1 b2 => hret H1 locs1 cells1 slots1 lr1 pc1 v vr h1 n1 (by omega) (by omega))
  cases v with
  | none => cases vr with
    | none => trivial
    | some w => exact y1.elim
  | some v => cases vr with
    | none => exact y1.elim
    | some w => exact ⟨y1, trivial⟩
theorem Rn_castI {a idx : Nat} {xs : List Int} (hd : decode M.2.1 pc = .ok (.checkcast idx, 3)) (hlink : Cond.classLink M.1.cls idx "[I" ∈ aGT) (ha : a ≠ 0) (hh : h a = cI xs) (kk : Rn d bc bs M (pc + 3) ls (vR (some a) :: st) h n Q) : Rn d bc bs M pc ls (vR (some a) :: st) h n Q := by
  intro g p l e R s m args below meth c H locs cells slots Qf lr sr C hc1 hs hR hS hL hst hret
  obtain ⟨q0, t0, rfl, r0, z0⟩ := sRel_cons hst
  have := vRel_R r0; subst this
  obtain ⟨cx, cb, cml, -, -, co, cw, cK, cf, clo, -⟩ := id C
  obtain ⟨ws, cA, f, hw, hf, k1, k2⟩ := aRel_int hR ha hh
  refine va_castA (nm := "[I") cx cb co (cw _ hlink) hw.2.2.2.2.1 (a - 1) hw.2.2.2.2.2.2.1 k2 hd ?_
  exact kk g p l e R s m args below meth c H locs cells slots Qf lr _ C hc1 hs hR hS hL ⟨r0, z0⟩ hret
set_option maxHeartbeats 1000000 in
theorem Rn_cloneI {a idx bc1 bs1 : Nat} {xs : List Int} (hb1 : bc + 1 ≤ bc1) (hb2 : bs + xs.length ≤ bs1) (hd : decode M.2.1 pc = .ok (.invokevirtual idx, 3))
    (hlink : Cond.methodLink M.1.cls idx ⟨"[I", "clone", "()Ljava/lang/Object;"⟩ ∈ aGT) (hsame : Cond.sameMethod "[I" "java/lang/Object" "clone" "()Ljava/lang/Object;" ∈ aGT) (hnat : Cond.native ⟨"java/lang/Object", "clone", "()Ljava/lang/Object;"⟩ ∈ aGT) (hinst : Cond.instanceMethod ⟨"java/lang/Object", "clone", "()Ljava/lang/Object;"⟩ ∈ aGT) (hsel : Cond.selects "[I" ⟨"[I", "clone", "()Ljava/lang/Object;"⟩ ⟨"java/lang/Object", "clone", "()Ljava/lang/Object;"⟩ ∈ aGT)
    (ha : a ≠ 0) (hh : h a = cI xs) (h8 : (st.map aCat).sum ≤ 8) (kk : Rn (d + 1) bc bs M (pc + 3) ls (vR (some n) :: st) (up h n (cI xs)) (n + 1) Q) : Rn (d + 1) bc1 bs1 M pc ls (vR (some a) :: st) h n Q := by
  intro g p l e R s m args below meth c H locs cells slots Qf lr sr C hc1 hs hR hS hL hst hret
  obtain ⟨q0, t0, rfl, r0, z0⟩ := sRel_cons hst
  have := vRel_R r0; subst this
  obtain ⟨cx, cb, cml, -, -, co, cw, cK, cf, clo, -⟩ := id C
  obtain ⟨ws, cA, f, hw, hf, k1, k2⟩ := aRel_int hR ha hh
  have hn0 : 1 ≤ n := hR.2.1
  have hsz : H.size = gAd g n := by rw [gAd_pos (by omega), hR.1]
  obtain ⟨c0, t1, f1, f2, f3⟩ := Cond.castable_spec (va_Nw.use (A := args) rfl cK.2.2.2.2.2.2.2.2.2.2)
  have hnm : s.vm.findClass "[I" = some cA := k2
  cases hnm.symm.trans f1
  have hcell : H[gAd g a]? = some (arrV cA xs.length (fun j => Value.int (f j))) := hw.2.2.2.2.1 _ _ hw.2.2.2.2.2.2.1
  have goal : ∀ T : State, T.heap = H → Stand p l e R s m args below meth c T locs cells slots → ∃ t, Steps p.tables e below (T.setTop (F0 m pc lr (.ref (gAd g a) :: t0))) t ∧ Qf t := by
    intro T hT X
    obtain ⟨-, kA, hkA, comp, hkind⟩ := State.isArrayOf_alike X.warmed.alike (k1 0 (fun _ => .null))
    obtain ⟨-, kS, hkS, compS, hkindS⟩ := k1 0 (fun _ => .null)
    obtain ⟨vm1, X1, step⟩ := X.cloneArray cx co (cw _ hlink) (cw _ hsame) (cw _ hnat) (cw _ hinst) (cw _ hsel) (a := gAd g a) (cell := arrV cA xs.length (fun j => Value.int (f j))) (by rw [hT]; exact hcell) (fun k h => by cases h) (fun h => by cases h) hnm f2 f3
      (fun i v hv => by
        have hk1 : T.vm.classes[cA]? = some kA := hkA
        have hi : i < xs.length := by
          have := (Array.getElem?_eq_some_iff.mp hv).1
          rwa [arrV_size] at this
        rw [arrV_read _ _ hi] at hv
        cases hv
        have hcl : (arrV cA xs.length (fun j => Value.int (f j))).cls = cA := rfl
        rw [hcl]
        simp [State.fitsSlot, State.slotType?, hk1, hkind, fits])
      (g := F0 m pc lr (.ref (gAd g a) :: t0)) rfl (by rw [cml]; exact hL.1) rfl (by rw [cb]; exact hd) (by omega) (by have := sRel_sum z0; show 2 * 0 + _ + 14 ≤ _; omega) (by omega) (by rw [arrV_size]; omega) (hloader := Vm.clonesLoader_of_array hkS hkindS)
    rw [arrV_size] at X1
    generalize hH1 : H.push (arrV cA xs.length (fun j => Value.int (f j))) = H1
    have e2 : H1.size = H.size + 1 := by rw [← hH1, Array.size_push]
    have e1 : H1[H.size]? = some (arrV cA xs.length (fun j => Value.int (f j))) := by rw [← hH1, Array.getElem?_push_size]
    have e3 : ∀ q : Nat, q < H.size → H1[q]? = H[q]? := fun q hq => by rw [← hH1, Array.getElem?_push, if_neg (Nat.ne_of_lt hq)]
    have hheap : ((T.setVm vm1).pushCell { cls := (arrV cA xs.length (fun j => Value.int (f j))).cls, slots := (arrV cA xs.length (fun j => Value.int (f j))).slots }).heap = H1 := by rw [← hH1, ← hT]; rfl
    obtain ⟨t, b1, b2⟩ := kk g p l e R s m args below meth c H1 locs (cells + 1) (slots + xs.length) Qf lr (.ref (gAd g n) :: t0) C (by omega) (by omega) (aRel_push (e1 := .inl (cA, xs.length, .inl f)) hR ⟨rfl, hf, k1, k2⟩ (show H1[gAd g n]? = some (vp_cell _ _) by rw [← hsz, e1]; rfl) e2 e3) ⟨by have := hS.1; omega, fun q h1 h2 => by rw [e3 q (by have := hS.1; omega)]; exact hS.2.1 q h1 h2, hS.2.2⟩ hL ⟨rfl, z0⟩ (fun H1 locs1 cells1 slots1 lr1 pc1 v vr h1 n1 b1 b2 => hret H1 locs1 cells1 slots1 lr1 pc1 v vr h1 n1 (by omega) (by omega)) _ hheap X1
    refine ⟨t, step t ?_, b2⟩
    have : T.heap.size = gAd g n := by rw [hT]; exact hsz
    rw [this]
    exact b1
  exact goal
theorem Rn_creturn {x : Int} (hr : M.2.2.2 = some .char) (hd : decode M.2.1 pc = .ok (.ireturn, 1)) (h0 : 0 ≤ x) (h1 : x < 256) (k : Q (some (vI x)) h n) : Rn d bc bs M pc ls [vI x] h n Q := by
  intro g p l e R s m args below meth c H locs cells slots Qf lr sr C hc hs hR hS hL hst hret
  obtain ⟨w, t0, rfl, r0, z0⟩ := sRel_cons hst
  have := sRel_nil z0; subst this
  exact hret H locs cells slots lr pc (some (vI x)) (some w) h n (by omega) (by omega) k hR hS r0 (by rw [hr]; exact ⟨h0, h1⟩) (by rw [hr]; exact hd)
theorem Rn_breturn {x : Int} (hr : M.2.2.2 = some .byte) (hd : decode M.2.1 pc = .ok (.ireturn, 1)) (h0 : 0 ≤ x) (h1 : x < 128) (k : Q (some (vI x)) h n) : Rn d bc bs M pc ls [vI x] h n Q := by
  intro g p l e R s m args below meth c H locs cells slots Qf lr sr C hc hs hR hS hL hst hret
  obtain ⟨w, t0, rfl, r0, z0⟩ := sRel_cons hst
  have := sRel_nil z0; subst this
  exact hret H locs cells slots lr pc (some (vI x)) (some w) h n (by omega) (by omega) k hR hS r0 (by rw [hr]; exact ⟨h0, h1⟩) (by rw [hr]; exact hd)
end RULES
