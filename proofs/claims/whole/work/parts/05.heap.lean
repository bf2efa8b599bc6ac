/-! Rows that read, write and make cells. -/
section HEAP
variable {g : aG} {s : State} {h : aH} {n : Nat} {H H1 : Heap}
theorem gAd_pos {g : aG} {a : Nat} (ha : a ≠ 0) : gAd g a = gB g + a := by simp [gAd, ha]
/-- a cell of the world, as it lies in the heap -/
def aHas (g : aG) (s : State) (h : aH) (n : Nat) (H : Heap) (a : Nat) (ws : va_W) (e : va_E) : Prop :=
  a ≠ 0 ∧ a < n ∧ ws.length + 1 = n ∧ (∀ i, i + 1 < n → ∃ e, ws[i]? = some (gB g + (i + 1), e) ∧ cRel g s (h (i + 1)) e) ∧ va_P (gD g) vwCl ws H ∧ va_D (gA g) ws ∧ ws[a - 1]? = some (gAd g a, e) ∧ cRel g s (h a) e
theorem aRel_has (hR : aRel g s h n H) {a : Nat} (h0 : a ≠ 0) (h1 : h a ≠ cN) : ∃ ws e, aHas g s h n H a ws e := by
  obtain ⟨r1, r2, r3, r4, ws, r5, r6, r7, r8⟩ := hR
  have ha : a < n := Nat.lt_of_not_le (fun q => h1 (r3 a q))
  obtain ⟨e, e1, e2⟩ := r6 (a - 1) (by omega)
  rw [show a - 1 + 1 = a by omega] at e1 e2
  exact ⟨ws, e, h0, ha, r5, r6, r7, r8, by rw [gAd_pos h0]; exact e1, e2⟩
theorem aRel_obj (hR : aRel g s h n H) {a ci : Nat} {fs : List aV} (hh : h a = cO ci fs) (hc : ci ≠ 99) : ∃ ws fr, aHas g s h n H a ws (.inr (ci, fr)) ∧ sRel g fs fr := by
  have h0 : a ≠ 0 := by
    intro q
    subst q
    have := hR.2.2.2.1
    rw [hh] at this
    cases this
  obtain ⟨ws, e, hw⟩ := aRel_has hR h0 (by rw [hh]; intro q; cases q; exact hc rfl)
  have h8 := hw.2.2.2.2.2.2.2
  rw [hh] at h8
  rcases e with ⟨cA, k, f | f | f | f | f⟩ | ⟨k', fr⟩
  · exact h8.elim
  · exact h8.elim
  · exact h8.elim
  · exact h8.elim
  · exact h8.elim
  · obtain ⟨rfl, h9⟩ := h8
    exact ⟨ws, fr, hw, h9⟩
theorem aRel_int (hR : aRel g s h n H) {a : Nat} {xs : List Int} (h0 : a ≠ 0) (hh : h a = cI xs) : ∃ ws cA f, aHas g s h n H a ws (.inl (cA, xs.length, .inl f)) ∧ (∀ j, j < xs.length → xs[j]? = some (f j).toInt) ∧ ArrOfT s cA .int ∧ va_RA s cA .int := by
  obtain ⟨ws, e, hw⟩ := aRel_has hR h0 (by rw [hh]; intro q; cases q)
  have h8 := hw.2.2.2.2.2.2.2
  rw [hh] at h8
  rcases e with ⟨cA, k, f | f | f | f | f⟩ | ⟨k', fr⟩ <;> first | exact h8.elim | skip
  obtain ⟨rfl, h9, h10, h11⟩ := h8
  exact ⟨ws, cA, f, hw, h9, h10, h11⟩
theorem aRel_long (hR : aRel g s h n H) {a : Nat} {xs : List Int} (h0 : a ≠ 0) (hh : h a = cJ xs) : ∃ ws cA f, aHas g s h n H a ws (.inl (cA, xs.length, .inr (.inl f))) ∧ (∀ j, j < xs.length → xs[j]? = some (f j).toInt) ∧ ArrOfT s cA .long ∧ va_RA s cA .long := by
  obtain ⟨ws, e, hw⟩ := aRel_has hR h0 (by rw [hh]; intro q; cases q)
  have h8 := hw.2.2.2.2.2.2.2
  rw [hh] at h8
  rcases e with ⟨cA, k, f | f | f | f | f⟩ | ⟨k', fr⟩ <;> first | exact h8.elim | skip
  obtain ⟨rfl, h9, h10, h11⟩ := h8
  exact ⟨ws, cA, f, hw, h9, h10, h11⟩
theorem aRel_bool (hR : aRel g s h n H) {a : Nat} {xs : List Int} (h0 : a ≠ 0) (hh : h a = cZ xs) : ∃ ws cA f, aHas g s h n H a ws (.inl (cA, xs.length, .inl f)) ∧ (∀ j, j < xs.length → xs[j]? = some (f j).toInt) ∧ ArrOfT s cA .boolean ∧ va_RA s cA .boolean := by
  obtain ⟨ws, e, hw⟩ := aRel_has hR h0 (by rw [hh]; intro q; cases q)
  have h8 := hw.2.2.2.2.2.2.2
  rw [hh] at h8
  rcases e with ⟨cA, k, f | f | f | f | f⟩ | ⟨k', fr⟩ <;> first | exact h8.elim | skip
  obtain ⟨rfl, h9, h10, h11⟩ := h8
  exact ⟨ws, cA, f, hw, h9, h10, h11⟩
theorem aRel_refs (hR : aRel g s h n H) {a k : Nat} {xs : List (Option Nat)} (h0 : a ≠ 0) (hh : h a = cQ k xs) : ∃ ws cA f, aHas g s h n H a ws (.inl (cA, xs.length, .inr (.inr (.inr (.inr f))))) ∧ (∀ j, j < xs.length → ∃ r, xs[j]? = some r ∧ f j = r.map (gAd g)) ∧ ArrOfT s cA (.object (qName k)) ∧ va_RA s cA (.object (qName k)) := by
  obtain ⟨ws, e, hw⟩ := aRel_has hR h0 (by rw [hh]; intro q; cases q)
  have h8 := hw.2.2.2.2.2.2.2
  rw [hh] at h8
  rcases e with ⟨cA, k, f | f | f | f | f⟩ | ⟨k', fr⟩ <;> first | exact h8.elim | skip
  obtain ⟨rfl, h9, h10, h11⟩ := h8
  exact ⟨ws, cA, f, hw, h9, h10, h11⟩
/-- a cell is written: the world behind it -/
theorem aRel_set (hR : aRel g s h n H) {a : Nat} {ws : va_W} {e e1 : va_E} {c1 : aC} (hw : aHas g s h n H a ws e) (hc : cRel g s c1 e1) (hat : va_at (gD g) vwCl (gAd g a, e1) H1) (z : H1.size = H.size) (oq : ∀ q : Nat, q ≠ gAd g a → H1[q]? = H[q]?) : aRel g s (up h a c1) n H1 := by
  obtain ⟨r1, r2, r3, r4, -⟩ := hR
  obtain ⟨h0, ha, h5, h6, h7, h8, h9, -⟩ := hw
  refine ⟨by rw [z]; exact r1, r2, fun i hi => by rw [up_ne (by omega)]; exact r3 i hi, by rw [up_ne (fun q => h0 q.symm)]; exact r4, ws.set (a - 1) (gAd g a, e1), by simp; exact h5, fun i hi => ?_, h7.set h8 h9 hat oq, h8.set h9⟩
  by_cases q : i = a - 1
  · subst q
    refine ⟨e1, ?_, ?_⟩
    · rw [List.getElem?_set_self (by omega), gAd_pos h0, show a - 1 + 1 = a by omega]
    · rw [show a - 1 + 1 = a by omega, up_at]; exact hc
  · rw [List.getElem?_set_ne (fun e => q e.symm), up_ne (by omega)]
    exact h6 i hi
/-- a cell is made: the world behind it -/
theorem aRel_push (hR : aRel g s h n H) {e1 : va_E} {c1 : aC} (hc : cRel g s c1 e1) (hat : va_at (gD g) vwCl (gAd g n, e1) H1) (z : H1.size = H.size + 1) (oq : ∀ q : Nat, q < H.size → H1[q]? = H[q]?) : aRel g s (up h n c1) (n + 1) H1 := by
  obtain ⟨r1, r2, r3, r4, ws, r5, r6, r7, r8⟩ := hR
  have hn : gAd g n = H.size := by rw [gAd_pos (by omega), r1]
  have hk : ∀ (k : Nat) (x : Nat × va_E), ws[k]? = some x → H1[x.1]? = H[x.1]? := fun k x hx => oq x.1 ((r7 k x hx).lt)
  refine ⟨by rw [z, r1]; omega, by omega, fun i hi => by rw [up_ne (by omega)]; exact r3 i (by omega), by rw [up_ne (by omega)]; exact r4, ws ++ [(gAd g n, e1)], by simp; exact r5, fun i hi => ?_, (r7.kept hk).app (fun k x hx => ?_), r8.push r7 hn (by unfold gA; rw [gAd_pos (by omega)]; omega)⟩
  · by_cases q : i + 1 = n
    · refine ⟨e1, ?_, ?_⟩
      · rw [List.getElem?_append_right (by omega), show i - ws.length = 0 by omega, ← gAd_pos (by omega), q]; rfl
      · rw [q, up_at]; exact hc
    · rw [List.getElem?_append_left (by omega), up_ne q]
      exact r6 i (by omega)
  · have hz : k < 1 := (List.getElem?_eq_some_iff.mp hx).1
    rw [show k = 0 by omega] at hx
    cases hx
    exact hat
theorem gA_ad {a : Nat} (ha : a ≠ 0) : gA g (gAd g a) := by unfold gA; rw [gAd_pos ha]; omega
theorem i32_nat {y : Int32} {N : Nat} (h0 : 0 ≤ y.toInt) (h1 : y.toInt < N) : vp_in y N ∧ y.toNatClampNeg = y.toInt.toNat := by
  refine ⟨fun q => ?_, rfl⟩
  rcases q with q | q
  · have := Int32.lt_iff_toInt_lt.mp q
    have e : (0 : Int32).toInt = 0 := rfl
    omega
  · have : y.toNatClampNeg = y.toInt.toNat := rfl
    omega
end HEAP
theorem aOK_nf {g : aG} {ty : FieldType} {v : aV} {w : Value} (hok : aOK (some ty) (some v)) (r : vRel g v w) : narrow ty w = w ∧ fits ty w = true := by
  rcases v with x | x | (x | x) | x
  · obtain ⟨y, rfl, ey⟩ := vRel_I r
    cases ty with
    | int => exact ⟨rfl, rfl⟩
    | boolean =>
      have hok : x = 0 ∨ x = 1 := hok
      rcases hok with q | q
      · have : y = 0 := by rw [← Int32.toInt_inj, ey, q]; rfl
        rw [this]; exact ⟨rfl, rfl⟩
      · have : y = 1 := by rw [← Int32.toInt_inj, ey, q]; rfl
        rw [this]; exact ⟨rfl, rfl⟩
    | char => rw [← ey] at hok; exact char_ok hok
    | byte => rw [← ey] at hok; exact byte_ok hok
    | _ => exact False.elim hok
  · obtain ⟨y, rfl, ey⟩ := vRel_L r
    cases ty with
    | long => exact ⟨rfl, rfl⟩
    | _ => exact False.elim hok
  · rw [vRel_N r]
    cases ty with
    | object => exact ⟨rfl, rfl⟩
    | array => exact ⟨rfl, rfl⟩
    | _ => exact False.elim hok
  · rw [vRel_R r]
    cases ty with
    | object => exact ⟨rfl, rfl⟩
    | array => exact ⟨rfl, rfl⟩
    | _ => exact False.elim hok
  · cases ty <;> exact False.elim hok
section RULES
variable {d bc bs : Nat} {M : aM} {pc : Nat} {ls : aL} {st : List aV} {h : aH} {n : Nat} {Q : aQ}
set_option maxHeartbeats 400000 in
theorem Rn_getfield {a ci k N idx : Nat} {C0 : String} {T : u_T} {fs : List aV} {v : aV} (hd : decode M.2.1 pc = .ok (.getfield idx, 3)) (hc : vwCl[ci]? = some (C0, T, N)) (hin : ∀ w ∈ u_ws C0 T N, w ∈ aGT) (hk : k < N) (hlink : Cond.fieldLink M.1.cls idx C0 (T k).2.1 (T k).2.2.1 ∈ aGT) (hdc : (T k).1 = C0)
    (hh : h a = cO ci fs) (hv : fs[k]? = some v) (kk : Rn d bc bs M (pc + 3) ls (v :: st) h n Q) : Rn d bc bs M pc ls (vR (some a) :: st) h n Q := by
  intro g p l e R s m args below meth c H locs cells slots Qf lr sr C hc1 hs hR hS hL hst hret
  obtain ⟨q0, t0, rfl, r0, z0⟩ := sRel_cons hst
  have := vRel_R r0; subst this
  have hci : ci ≠ 99 := fun q => by rw [q] at hc; cases hc
  obtain ⟨ws, fr, ⟨a0, a1, a2, a3, a4, a5, a6, a7⟩, hfr⟩ := aRel_obj hR hh hci
  obtain ⟨w, hw, hvw⟩ := sRel_get k hfr hv
  have C2 := C
  obtain ⟨cx, cb, -, -, -, co, cw, cK, -⟩ := C2
  refine va_get cx cb (Ts := aGT) cw hin co cK.1 a4 (a - 1) a6 hc k hk (cw _ hlink) (fun x hx => by rw [hdc] at hx; exact hx) hw hd ?_
  exact kk g p l e R s m args below meth c H locs cells slots Qf lr _ C hc1 hs hR hS hL ⟨hvw, z0⟩ hret
set_option maxHeartbeats 400000 in
/-- a field is written: an ordinary one, or in its constructor a final one -/
theorem Rn_putfield {a ci k N idx : Nat} {C0 : String} {T : u_T} {ty0 : Nat → FieldType} {fs : List aV} {v : aV} (hd : decode M.2.1 pc = .ok (.putfield idx, 3)) (hc : vwCl[ci]? = some (C0, T, N)) (hin : ∀ w ∈ u_ws C0 T N, w ∈ aGT) (hty : ∀ k, k < N → parseFieldDescriptor (T k).2.2.1 = some (ty0 k)) (hnm : ∀ a, a < N → ∀ b, b < N → a ≠ b → (T a).2.1 ≠ (T b).2.1) (hk : k < N) (hlink : Cond.fieldLink M.1.cls idx C0 (T k).2.1 (T k).2.2.1 ∈ aGT) (hdc : (T k).1 = C0)
    (hfin : (T k).2.2.2 = false ∨ (M.1.name = "<init>" ∧ M.1.cls = C0)) (hok : aOK (some (ty0 k)) (some v)) (hl : k < fs.length)
    (hh : h a = cO ci fs) (kk : Rn d bc bs M (pc + 3) ls st (up h a (cO ci (fs.set k v))) n Q) : Rn d bc bs M pc ls (v :: vR (some a) :: st) h n Q := by
  intro g p l e R s m args below meth c H locs cells slots Qf lr sr C hc1 hs hR hS hL hst hret
  obtain ⟨w, t0, rfl, r0, z0⟩ := sRel_cons hst
  obtain ⟨q1, t1, rfl, r1, z1⟩ := sRel_cons z0
  have := vRel_R r1; subst this
  have hci : ci ≠ 99 := fun q => by rw [q] at hc; cases hc
  obtain ⟨ws, fr, hw, hfr⟩ := aRel_obj hR hh hci
  obtain ⟨a0, a1, a2, a3, a4, a5, a6, a7⟩ := hw
  have hw : aHas g s h n H a ws (.inr (ci, fr)) := ⟨a0, a1, a2, a3, a4, a5, a6, a7⟩
  have C2 := C
  obtain ⟨cx, cb, -, -, -, co, cw, cK, -, -, cinit⟩ := C2
  have hap := va_apart (own := M.1.cls) cw hin ty0 hty hnm cK.1 hc
  obtain ⟨r, h1, cell, q1, q2, q3, q4⟩ := a4 (a - 1) _ a6
  have hr : r = (C0, T, N) := Option.some.inj (h1.symm.trans hc)
  subst hr
  obtain ⟨hS0, hfc, kC, hkC, hkind⟩ := cK.1.1 ci _ hc
  obtain ⟨cf, kf, fi, f, hi, hsl⟩ := hS0 k hk
  have hty1 := hty k hk
  have hnf := aOK_nf hok r0
  have hlf : k < fr.length := by rw [sRel_len hfr]; exact hl
  have hst := (u_facts hfc hkC (u_lays cw hin hk) hi).1
  have hlay := cw _ (hin _ (u_in_lay hk))
  have goal : ∀ H1 : Heap, H1[gAd g a]? = some (cell.setSlot f.slot w) → H1.size = H.size → (∀ q, q ≠ gAd g a → H1[q]? = H[q]?) → W p l e R s m args below meth c H1 (locs ++ [⟨gAd g a, f.slot⟩]) cells slots Qf (F0 m (pc + 3) lr t1) := by
    intro H1 e1 e2 e3
    rw [hsl] at e1
    refine kk g p l e R s m args below meth c H1 _ cells slots Qf lr _ C hc1 hs (aRel_set (e1 := .inr (ci, fr.set k w)) hR hw ⟨rfl, sRel_set k hfr r0⟩ ⟨_, hc, t_OB.to (V := updV (vp_V fr) k w) ⟨_, e1, q2, q3, t_set q4 hap hk w⟩ (fun j _ => vp_updV_set hlf w j)⟩ e2 e3) (hS.put e2 e3 (gA_ad a0)) hL z1 hret
  unfold u_lay at hlay
  by_cases hf : (T k).2.2.2 = true
  · rw [if_pos hf] at hlay
    rcases hfin with q | ⟨q, qc⟩
    · rw [hf] at q; cases q
    have hcf : m.cls = cf := by
      obtain ⟨_, _, c', _, _, _, -, -, hf', -, -, -, hown2, -⟩ := Cond.laysFinal_spec hlay
      have e1 : c' = cf := by have := hi.symm.trans hf'; simp at this; exact this.1.symm
      rw [hdc, ← qc] at hown2
      rw [← e1]; exact Option.some.inj (co.symm.trans hown2)
    have h6 := u_fits hfc hkC hkind (Or.inr hlay) hi hty1 hnf.1 hnf.2
    exact W.putFinK cx cb co (cw _ hlink) (by rw [← hdc]; exact hi) hst hcf (cinit q) (by rw [q2]; exact h6) q1 q3 (by rw [hsl]; exact k2_hasslot (q4 k hk)) rfl rfl hd goal
  · rw [if_neg hf] at hlay
    have h6 := u_store hfc hkC hkind hlay hi hty1 hnf.1 hnf.2
    exact W.putK cx cb (f := f) ⟨co, cw _ hlink, ⟨_, _, _, by rw [← hdc]; exact hi⟩, hst⟩ (by rw [q2]; exact h6) q1 q3 (by rw [hsl]; exact k2_hasslot (q4 k hk)) rfl rfl hd goal
end RULES
