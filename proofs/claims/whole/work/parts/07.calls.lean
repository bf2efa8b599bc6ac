/-! Rows that call. -/
/-- what is known of a method that is called: its code is the tables' own, how many parameters it takes -/
def aFix (N : aM) (np : Nat) : Prop := plainFor N.1 = true ∧ Cond.code N.1 N.2.1 N.2.2.1 N.2.2.2 ∈ aGT ∧ N.2.2.1 ≤ 45 ∧ Cond.initialized N.1.cls ∈ aGT ∧ (N.1.cls ≠ "java/lang/invoke/MethodHandle" ∧ N.1.cls ≠ "java/lang/invoke/VarHandle") ∧ (parseMethodDescriptor N.1.desc).map (fun d => d.parameters.length) = some np
theorem aFix_good {N : aM} {np : Nat} (F : aFix N np) : GoodIn aGT (aWs N) := aGT_good (fun w hw => by
  rcases List.mem_cons.mp hw with q | q
  · rw [q]; exact F.2.1
  · exact q)
section RULES
variable {d bc bs : Nat} {M : aM} {pc : Nat} {ls : aL} {st : List aV} {h : aH} {n : Nat} {Q : aQ}
/-- behind a call -/
theorem aBehind {g : aG} {p : Program} {l : Launch} {e : Env} {R : Room} {s : State} {m : MethodId} {args : Array Value} {below : List Frame} {meth : Method} {c : Code} {H : Heap} {locs : List Loc} {cells slots : Nat} {Qf : State → Prop} {mc ms : Nat} {lr : Array Slot} {st0 rest : List Value} {a : Array Value} {N : aM} {Q1 : aQ}
    (hr : va_Run p l e R s m args below meth c H locs cells slots mc ms (F0 m pc lr st0) rest (aQc g N Q1 a) (gA g)) (hS : va_S (gA g) s.heap H locs)
    (kk : ∀ (v : Option aV) (vr : Option Value) (h1 : aH) (n1 : Nat) (H1 : Heap) (locs1 : List Loc), oRel g v vr → Q1 v h1 n1 → aRel g s h1 n1 H1 → va_S (gA g) s.heap H1 locs1 → W p l e R s m args below meth c H1 locs1 (cells + mc) (slots + ms) Qf (F0 m (pc + 3) lr (vr.toList ++ rest))) :
    W p l e R s m args below meth c H locs cells slots Qf (F0 m pc lr st0) := by
  intro T hT X
  obtain ⟨vr, s0, t, T1, L, h0, X1, hL, e1, e2, ⟨v, vr2, h1, n1, q1, q2, q3, q4, q5, q6⟩, go⟩ := hr T hT X
  cases q1
  have hal : t.vm.Alike s.vm := by rw [← e2]; exact X1.warmed.alike.symm
  obtain ⟨t2, b1, b2⟩ := kk v vr h1 n1 T1.heap (locs ++ L) q2 q4 (by rw [e1]; exact aRel_moved hal q5)
    ⟨Nat.le_trans hS.1 (by rw [e1, ← h0]; exact q6.1), fun q z1 z2 => by rw [e1, q6.2 q (by rw [h0]; exact Nat.lt_of_lt_of_le z1 hS.1) z2, h0]; exact hS.2.1 q z1 z2, fun q hq => by
      rcases List.mem_append.mp hq with z | z
      · exact hS.2.2 q z
      · exact hL q z⟩ T1 rfl X1
  exact ⟨t2, go t2 b1, b2⟩
theorem aPre {g : aG} {s : State} {H : Heap} {avs : List aV} {As : List Value} {locs : List Loc} (hR : aRel g s h n H) (hK : aKF g s s.heap) (hS : va_S (gA g) s.heap H locs) (hA : sRel g avs As) : FrameBlind (aPc g avs h n) ∧ ∀ U : State, U.heap = H → s.WarmedH U.vm → aPc g avs h n As.toArray U := by
  refine ⟨aPc_blind, fun U hU hW => ⟨As, rfl, hA, by rw [hU]; exact aRel_moved hW.alike hR, ?_⟩⟩
  rw [hU]
  have hR0 : s.heap.size ≤ H.size := hS.1
  obtain ⟨k1, k2, k3, k4, k5, k6, k7, k8, k9, k10, k11⟩ := hK
  have hvm := hW.alike
  have hq : ∀ a : Nat, a < s.heap.size → ¬ gA g a → H[a]? = s.heap[a]? := hS.2.1
  refine ⟨k1.moved hvm, fun w hw => va_Nw.warmM hW (k2 w hw), k3.moved hvm, k4.moved hvm, (k5.moved hvm).kept (hq _ ?_ ?_), k6, (k7.moved hvm).kept hq, k8.warm hW, (k9.moved hvm).kept hq, (k10.moved hvm).kept hq, k11.warmC hW⟩
  · obtain ⟨scr, q, -⟩ := k5
    exact (Array.getElem?_eq_some_iff.mp q).1
  · exact fun (q : gB g < gb g) => Nat.not_lt.mpr k6 q
theorem aRoom {N : aM} {np d1 : Nat} {R : Room} (F : aFix N np) (bc1 bs1 : Nat) (h1 : d1 + 1 ≤ R.frames) (h2 : 64 * (d1 + 1) + 20 ≤ R.locals) : (aRm d1 bc1 bs1).frames + 1 ≤ R.frames ∧ 8 + (N.2.2.1 + 11) + (aRm d1 bc1 bs1).locals ≤ R.locals := by
  have := F.2.2.1
  refine ⟨h1, ?_⟩
  show 8 + (N.2.2.1 + 11) + (64 * d1 + 20) ≤ R.locals
  omega
set_option maxHeartbeats 400000 in
/-- an instance method of the receiver's own class -/
theorem Rn_callV {N : aM} {np idx a ci k0 bc1 bs1 bc2 bs2 : Nat} {avs : List aV} {T : u_T} {fs : List aV} {ls1 : aL} (F : aFix N np) (hd : decode M.2.1 pc = .ok (.invokevirtual idx, 3)) (hlink : Cond.methodLink M.1.cls idx N.1 ∈ aGT) (hinst : Cond.instanceMethod N.1 ∈ aGT) (hsel : Cond.selects N.1.cls N.1 N.1 ∈ aGT) (hc : vwCl[ci]? = some (N.1.cls, T, k0)) (hh : h a = cO ci fs)
    (hnp : avs.length = np) (hen : (aEn (vR (some a) :: avs)).length ≤ N.2.2.1) (h8 : (st.map aCat).sum ≤ 8) (hb1 : bc1 + bc2 ≤ bc) (hb2 : bs1 + bs2 ≤ bs) (hls : aEnt (vR (some a) :: avs) N.2.2.1 = ls1)
    (kk : Rn d bc1 bs1 N 0 ls1 [] h n (fun v h1 n1 => Rn (d + 1) bc2 bs2 M (pc + 3) ls (v.toList ++ st) h1 n1 Q)) : Rn (d + 1) bc bs M pc ls (avs.reverse ++ vR (some a) :: st) h n Q := by
  intro g p l e R s m args below meth c H locs cells slots Qf lr sr C hc1 hs hR hS hL hst hret
  subst hls
  obtain ⟨w1, w2, rfl, z1, z2⟩ := sRel_app hst
  obtain ⟨q3, w3, rfl, z3, z4⟩ := sRel_cons z2
  have := vRel_R z3; subst this
  have hA : sRel g (vR (some a) :: avs) (.ref (gAd g a) :: w1.reverse) := ⟨rfl, by have := sRel_rev z1; rwa [List.reverse_reverse] at this⟩
  obtain ⟨cx, cb, cml, -, -, co, cw, cK, cf, clo, -⟩ := id C
  obtain ⟨P1, P2⟩ := aPre hR cK hS hA
  have hci : ci ≠ 99 := fun q => by rw [q] at hc; cases hc
  obtain ⟨ws, fr, hw, -⟩ := aRel_obj hR hh hci
  obtain ⟨r, e1, cell, e2, e3, e4, -⟩ := hw.2.2.2.2.1 _ _ hw.2.2.2.2.2.2.1
  have hr : r = (N.1.cls, T, k0) := Option.some.inj (e1.symm.trans hc)
  subst hr
  have hfc := (cK.1.1 ci _ hc).2.1
  have hM := Rn.met F.1 hen l g kk
  refine aBehind (mc := bc1) (ms := bs1) (va_runV (C := N.1.cls) (b := gAd g a) (As := w1.reverse) (rest := w3) ⟨cx, cb, cml, co, cw⟩ hM ⟨callB_of np cw (aFix_good F) rfl rfl rfl (cw _ F.2.2.2.1) (cw _ hlink) ⟨F.2.2.2.2.1.1, F.2.2.2.2.1.2, F.2.2.2.2.2⟩ (aRoom F bc1 bs1 cf clo), cw _ hinst, cw _ hsel⟩ ⟨P1, ⟨cell, e2, by rw [e4]; rfl, by rw [e3]; exact hfc⟩, P2⟩ rfl (by rw [List.length_reverse, sRel_len z1, List.length_reverse]; exact hnp) hL.1 (by rw [List.reverse_reverse]) (lv_room (by rw [sRel_sum z4]; exact h8)) hd ⟨by omega, by omega⟩) hS (fun v vr h1 n1 H1 locs1 y1 y2 y3 y4 => ?_)
  refine y2 g p l e R s m args below meth c H1 locs1 (cells + bc1) (slots + bs1) Qf lr _ C (by omega) (by omega) y3 y4 hL (sRel_cat ?_ z4) (fun H1 locs1 cells1 slots1 lr1 pc1 v vr h1 n1 b1 b2 => hret H1 locs1 cells1 slots1 lr1 pc1 v vr h1 n1 (by omega) (by omega))
  cases v with
  | none => cases vr with
    | none => trivial
    | some w => exact y1.elim
  | some v => cases vr with
    | none => exact y1.elim
    | some w => exact ⟨y1, trivial⟩
set_option maxHeartbeats 400000 in
/-- a static method -/
theorem Rn_callS {N : aM} {np idx bc1 bs1 bc2 bs2 : Nat} {avs : List aV} {ls1 : aL} (F : aFix N np) (hd : decode M.2.1 pc = .ok (.invokestatic idx, 3)) (hlink : Cond.methodLink M.1.cls idx N.1 ∈ aGT ∨ ∃ host, (M.1.cls, idx, N.1, host) ∈ aNest) (hstat : Cond.static N.1 ∈ aGT)
    (hnp : avs.length = np) (hen : (aEn avs).length ≤ N.2.2.1) (h8 : (st.map aCat).sum ≤ 8) (hb1 : bc1 + bc2 ≤ bc) (hb2 : bs1 + bs2 ≤ bs) (hls : aEnt avs N.2.2.1 = ls1)
    (kk : Rn d bc1 bs1 N 0 ls1 [] h n (fun v h1 n1 => Rn (d + 1) bc2 bs2 M (pc + 3) ls (v.toList ++ st) h1 n1 Q)) : Rn (d + 1) bc bs M pc ls (avs.reverse ++ st) h n Q := by
  intro g p l e R s m args below meth c H locs cells slots Qf lr sr C hc1 hs hR hS hL hst hret
  subst hls
  obtain ⟨w1, w3, rfl, z1, z4⟩ := sRel_app hst
  have hA : sRel g avs w1.reverse := by have := sRel_rev z1; rwa [List.reverse_reverse] at this
  obtain ⟨cx, cb, cml, -, -, co, cw, cK, cf, clo, -⟩ := id C
  have P := aPre hR cK hS hA
  have hM := Rn.met F.1 hen l g kk
  have behind : va_Run p l e R s m args below meth c H locs cells slots bc1 bs1 (F0 m pc lr (w1 ++ w3)) w3 (aQc g N (fun v h1 n1 => Rn (d + 1) bc2 bs2 M (pc + 3) ls (v.toList ++ st) h1 n1 Q) w1.reverse.toArray) (gA g) := by
    rcases hlink with hl | ⟨host, hl⟩
    · exact va_runS (As := w1.reverse) (rest := w3) ⟨cx, cb, cml, co, cw⟩ hM ⟨callB_of np cw (aFix_good F) rfl rfl rfl (cw _ F.2.2.2.1) (cw _ hl) ⟨F.2.2.2.2.1.1, F.2.2.2.2.1.2, F.2.2.2.2.2⟩ (aRoom F bc1 bs1 cf clo), cw _ hstat⟩ P rfl (by rw [List.length_reverse, sRel_len z1, List.length_reverse]; exact hnp) hL.1 (by rw [List.reverse_reverse]) (lv_room (by rw [sRel_sum z4]; exact h8)) hd ⟨by omega, by omega⟩
    · exact va_runSN (host := host) (As := w1.reverse) (rest := w3) ⟨cx, cb, cml, co, cw⟩ hM ⟨va_cnB np cw (aFix_good F) rfl rfl rfl (cK.2.1 _ hl) (cw _ F.2.2.2.1) ⟨F.2.2.2.2.1.1, F.2.2.2.2.1.2, F.2.2.2.2.2⟩ (aRoom F bc1 bs1 cf clo), cw _ hstat, trivial⟩ P rfl (by rw [List.length_reverse, sRel_len z1, List.length_reverse]; exact hnp) hL.1 (by rw [List.reverse_reverse]) (lv_room (by rw [sRel_sum z4]; exact h8)) hd ⟨by omega, by omega⟩
  refine aBehind behind hS (fun v vr h1 n1 H1 locs1 y1 y2 y3 y4 => ?_)
  refine y2 g p l e R s m args below meth c H1 locs1 (cells + bc1) (slots + bs1) Qf lr _ C (by omega) (by omega) y3 y4 hL (sRel_cat ?_ z4) (fun H1 locs1 cells1 slots1 lr1 pc1 v vr h1 n1 b1 b2 => hret H1 locs1 cells1 slots1 lr1 pc1 v vr h1 n1 (by omega) (by omega))
  cases v with
  | none => cases vr with
    | none => trivial
    | some w => exact y1.elim
  | some v => cases vr with
    | none => exact y1.elim
    | some w => exact ⟨y1, trivial⟩
set_option maxHeartbeats 400000 in
/-- a constructor -/
theorem Rn_callI {N : aM} {np idx a bc1 bs1 bc2 bs2 : Nat} {avs : List aV} {ls1 : aL} (F : aFix N np) (hN : N.1.name = "<init>") (hNr : N.2.2.2 = none) (hd : decode M.2.1 pc = .ok (.invokespecial idx, 3)) (hlink : Cond.methodLink M.1.cls idx N.1 ∈ aGT ∨ ∃ host, (M.1.cls, idx, N.1, host) ∈ aNest) (hinst : Cond.instanceMethod N.1 ∈ aGT)
    (hnp : avs.length = np) (hen : (aEn (vR (some a) :: avs)).length ≤ N.2.2.1) (h8 : (st.map aCat).sum ≤ 8) (hb1 : bc1 + bc2 ≤ bc) (hb2 : bs1 + bs2 ≤ bs) (hls : aEnt (vR (some a) :: avs) N.2.2.1 = ls1)
    (kk : Rn d bc1 bs1 N 0 ls1 [] h n (fun v h1 n1 => Rn (d + 1) bc2 bs2 M (pc + 3) ls (v.toList ++ st) h1 n1 Q)) : Rn (d + 1) bc bs M pc ls (avs.reverse ++ vR (some a) :: st) h n Q := by
  intro g p l e R s m args below meth c H locs cells slots Qf lr sr C hc1 hs hR hS hL hst hret
  subst hls
  obtain ⟨w1, w2, rfl, z1, z2⟩ := sRel_app hst
  obtain ⟨q3, w3, rfl, z3, z4⟩ := sRel_cons z2
  have := vRel_R z3; subst this
  have hA : sRel g (vR (some a) :: avs) (.ref (gAd g a) :: w1.reverse) := ⟨rfl, by have := sRel_rev z1; rwa [List.reverse_reverse] at this⟩
  obtain ⟨cx, cb, cml, -, -, co, cw, cK, cf, clo, -⟩ := id C
  have P := aPre hR cK hS hA
  have hM := Rn.met F.1 hen l g kk
  obtain ⟨yN, cN1, nLN, retN⟩ := N
  dsimp only at hNr
  subst hNr
  have behind : va_Run p l e R s m args below meth c H locs cells slots bc1 bs1 (F0 m pc lr (w1 ++ .ref (gAd g a) :: w3)) w3 (aQc g (yN, cN1, nLN, none) (fun v h1 n1 => Rn (d + 1) bc2 bs2 M (pc + 3) ls (v.toList ++ st) h1 n1 Q) (Value.ref (gAd g a) :: w1.reverse).toArray) (gA g) := by
    rcases hlink with hl | ⟨host, hl⟩
    · exact va_runI (b := gAd g a) (As := w1.reverse) (rest := w3) ⟨cx, cb, cml, co, cw⟩ hM ⟨callB_of np cw (aFix_good F) rfl rfl rfl (cw _ F.2.2.2.1) (cw _ hl) ⟨F.2.2.2.2.1.1, F.2.2.2.2.1.2, F.2.2.2.2.2⟩ (aRoom F bc1 bs1 cf clo), hN, cw _ hinst⟩ P rfl (by rw [List.length_reverse, sRel_len z1, List.length_reverse]; exact hnp) hL.1 (by rw [List.reverse_reverse]) (lv_room (by rw [sRel_sum z4]; exact h8)) hd ⟨by omega, by omega⟩
    · exact va_runIN (host := host) (b := gAd g a) (As := w1.reverse) (rest := w3) ⟨cx, cb, cml, co, cw⟩ hM ⟨va_cnB np cw (aFix_good F) rfl rfl rfl (cK.2.1 _ hl) (cw _ F.2.2.2.1) ⟨F.2.2.2.2.1.1, F.2.2.2.2.1.2, F.2.2.2.2.2⟩ (aRoom F bc1 bs1 cf clo), hN, cw _ hinst⟩ P rfl (by rw [List.length_reverse, sRel_len z1, List.length_reverse]; exact hnp) hL.1 (by rw [List.reverse_reverse]) (lv_room (by rw [sRel_sum z4]; exact h8)) hd ⟨by omega, by omega⟩
  refine aBehind behind hS (fun v vr h1 n1 H1 locs1 y1 y2 y3 y4 => ?_)
  refine y2 g p l e R s m args below meth c H1 locs1 (cells + bc1) (slots + bs1) Qf lr _ C (by omega) (by omega) y3 y4 hL (sRel_cat ?_ z4) (fun H1 locs1 cells1 slots1 lr1 pc1 v vr h1 n1 b1 b2 => hret H1 locs1 cells1 slots1 lr1 pc1 v vr h1 n1 (by omega) (by omega))
  cases v with
  | none => cases vr with
    | none => trivial
    | some w => exact y1.elim
  | some v => cases vr with
    | none => exact y1.elim
    | some w => exact ⟨y1, trivial⟩
end RULES
