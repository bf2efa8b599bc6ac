theorem dX6_init_0 : decode cX6_init 0 = .ok (.aload_n 0, 1) := by decide +kernel
theorem dX6_init_1 : decode cX6_init 1 = .ok (.invokespecial 3, 3) := by decide +kernel
theorem dX6_init_4 : decode cX6_init 4 = .ok (.aload_n 0, 1) := by decide +kernel
theorem dX6_init_5 : decode cX6_init 5 = .ok (.bipush 72, 2) := by decide +kernel
theorem dX6_init_7 : decode cX6_init 7 = .ok (.newarray .int, 2) := by decide +kernel
theorem dX6_init_9 : decode cX6_init 9 = .ok (.putfield 9, 3) := by decide +kernel
theorem dX6_init_12 : decode cX6_init 12 = .ok (.aload_n 0, 1) := by decide +kernel
theorem dX6_init_13 : decode cX6_init 13 = .ok (.new 15, 3) := by decide +kernel
theorem dX6_init_16 : decode cX6_init 16 = .ok (.dup, 1) := by decide +kernel
theorem dX6_init_17 : decode cX6_init 17 = .ok (.invokespecial 17, 3) := by decide +kernel
theorem dX6_init_20 : decode cX6_init 20 = .ok (.putfield 18, 3) := by decide +kernel
theorem dX6_init_23 : decode cX6_init 23 = .ok (.aload_n 0, 1) := by decide +kernel
theorem dX6_init_24 : decode cX6_init 24 = .ok (.iconst 0, 1) := by decide +kernel
theorem dX6_init_25 : decode cX6_init 25 = .ok (.putfield 22, 3) := by decide +kernel
theorem dX6_init_28 : decode cX6_init 28 = .ok (.aload_n 0, 1) := by decide +kernel
theorem dX6_init_29 : decode cX6_init 29 = .ok (.iconst 0, 1) := by decide +kernel
theorem dX6_init_30 : decode cX6_init 30 = .ok (.putfield 26, 3) := by decide +kernel
theorem dX6_init_33 : decode cX6_init 33 = .ok (.aload_n 0, 1) := by decide +kernel
theorem dX6_init_34 : decode cX6_init 34 = .ok (.sipush 227, 3) := by decide +kernel
theorem dX6_init_37 : decode cX6_init 37 = .ok (.putfield 29, 3) := by decide +kernel
theorem dX6_init_40 : decode cX6_init 40 = .ok (.return_, 1) := by decide +kernel
theorem BX6_init_0 {d bc bs : Nat} {h : aH} {n : Nat} {Q : aQ} {ar0 : Nat} (k : Rn (d + 1) bc bs mX6_init 9 [some (vR (some ar0))] [vR (some n), vR (some ar0)] (up h n (cI (List.replicate 72 0))) (n + 1) Q) : Rn (d + 1) (bc + 1) (bs + 72) mX6_init 0 [some (vR (some ar0))] [] h n Q := by
  refine Rn_aload_n dX6_init_0 rfl rfl rfl ?_
  refine Rn_objInit dX6_init_1 wd_187 wd_149 wd_150 (Nat.le_of_ble_eq_true rfl) ?_
  refine Rn_aload_n dX6_init_4 rfl rfl rfl ?_
  refine Rn_bipush dX6_init_5 rfl ?_
  refine Rn_newarrI (N := 72) (bc := bc) (bs := bs) (by omega) (by omega) wd_181 dX6_init_7 (by decide) ?_
  exact k
theorem BX6_init_9 {d bc bs : Nat} {h : aH} {n : Nat} {Q : aQ} {r0 q1 : Option Nat} {aq0 : Nat} {f1 : List aV} (h2 : h aq0 = cO 6 f1) (m3 : 0 < f1.length) (k : Rn d bc bs mX6_init 12 [some (vR r0)] [] (up h aq0 (cO 6 (f1.set 0 (vR q1)))) n Q) : Rn d (bc) (bs) mX6_init 9 [some (vR r0)] [vR q1, vR (some aq0)] h n Q := by
  refine Rn_putfield (ci := 6) (k := 0) dX6_init_9 rfl in_6 tyX6_ok nmX6 (Nat.le_of_ble_eq_true rfl) wd_202 rfl (Or.inr ⟨rfl, rfl⟩) trivial m3 h2 ?_
  exact k
theorem BX6_init_12 {d bc bs : Nat} {h : aH} {n : Nat} {Q : aQ} {r0 : Option Nat} (k : Rn d bc bs mX6_init 16 [some (vR r0)] [vR (some n), vR r0] (up h n (cO 0 [vR none, vI 0])) (n + 1) Q) : Rn d (bc + 1) (bs + 2) mX6_init 12 [some (vR r0)] [] h n Q := by
  refine Rn_aload_n dX6_init_12 rfl rfl rfl ?_
  refine Rn_new (ci := 0) (bc := bc) (bs := bs) (by omega) (by omega) dX6_init_13 rfl in_0 tyX0_ok nf_0 wd_188 wd_189 wd_126 (fs := [vR none, vI 0]) rfl ?_
  exact k
theorem BX6_init_16 {d bc bs bc1 bs1 : Nat} {h : aH} {n : Nat} {Q : aQ} {r0 q0 : Option Nat} {aq1 : Nat} (k : Rn d bc1 bs1 mX0_init 0 [some (vR (some aq1))] [] h n (fun v h1 n1 => Rn (d + 1) bc bs mX6_init 20 [some (vR r0)] (v.toList ++ [vR (some aq1), vR q0]) h1 n1 Q)) : Rn (d + 1) (bc1 + bc) (bs1 + bs) mX6_init 16 [some (vR r0)] [vR (some aq1), vR q0] h n Q := by
  refine Rn_dup dX6_init_16 rfl ?_
  exact Rn_callI (avs := []) (st := [vR (some aq1), vR q0]) (bc1 := bc1) (bs1 := bs1) (bc2 := bc) (bs2 := bs) fx_X0_init rfl rfl dX6_init_17 (Or.inr ⟨"BottledPost", List.mem_of_getElem? (i := 3) rfl⟩) wd_191 rfl (Nat.le_of_ble_eq_true rfl) (Nat.le_of_ble_eq_true rfl) (by omega) (by omega) (ls1 := [some (vR (some aq1))]) rfl k
theorem BX6_init_20 {d bc bs : Nat} {h : aH} {n : Nat} {Q : aQ} {r0 q1 : Option Nat} {aq0 : Nat} {f1 : List aV} (h2 : h aq0 = cO 6 f1) (m3 : 1 < f1.length) (k : Rn d bc bs mX6_init 23 [some (vR r0)] [] (up h aq0 (cO 6 (f1.set 1 (vR q1)))) n Q) : Rn d (bc) (bs) mX6_init 20 [some (vR r0)] [vR q1, vR (some aq0)] h n Q := by
  refine Rn_putfield (ci := 6) (k := 1) dX6_init_20 rfl in_6 tyX6_ok nmX6 (Nat.le_of_ble_eq_true rfl) wd_203 rfl (Or.inr ⟨rfl, rfl⟩) trivial m3 h2 ?_
  exact k
theorem BX6_init_23 {d bc bs : Nat} {h : aH} {n : Nat} {Q : aQ} {ar0 : Nat} {f1 : List aV} (h2 : h ar0 = cO 6 f1) (m3 : 2 < f1.length) (k : Rn d bc bs mX6_init 28 [some (vR (some ar0))] [] (up h ar0 (cO 6 (f1.set 2 (vI 0)))) n Q) : Rn d (bc) (bs) mX6_init 23 [some (vR (some ar0))] [] h n Q := by
  refine Rn_aload_n dX6_init_23 rfl rfl rfl ?_
  refine Rn_iconst dX6_init_24 rfl ?_
  refine Rn_putfield (ci := 6) (k := 2) dX6_init_25 rfl in_6 tyX6_ok nmX6 (Nat.le_of_ble_eq_true rfl) wd_205 rfl (Or.inl rfl) trivial m3 h2 ?_
  exact k
theorem BX6_init_28 {d bc bs : Nat} {h : aH} {n : Nat} {Q : aQ} {ar0 : Nat} {f1 : List aV} (h2 : h ar0 = cO 6 f1) (m3 : 3 < f1.length) (k : Rn d bc bs mX6_init 33 [some (vR (some ar0))] [] (up h ar0 (cO 6 (f1.set 3 (vI 0)))) n Q) : Rn d (bc) (bs) mX6_init 28 [some (vR (some ar0))] [] h n Q := by
  refine Rn_aload_n dX6_init_28 rfl rfl rfl ?_
  refine Rn_iconst dX6_init_29 rfl ?_
  refine Rn_putfield (ci := 6) (k := 3) dX6_init_30 rfl in_6 tyX6_ok nmX6 (Nat.le_of_ble_eq_true rfl) wd_208 rfl (Or.inl rfl) trivial m3 h2 ?_
  exact k
theorem BX6_init_33 {d bc bs : Nat} {h : aH} {n : Nat} {Q : aQ} {ar0 : Nat} {f1 : List aV} (h2 : h ar0 = cO 6 f1) (m3 : 4 < f1.length) (k : Rn d bc bs mX6_init 40 [some (vR (some ar0))] [] (up h ar0 (cO 6 (f1.set 4 (vI 227)))) n Q) : Rn d (bc) (bs) mX6_init 33 [some (vR (some ar0))] [] h n Q := by
  refine Rn_aload_n dX6_init_33 rfl rfl rfl ?_
  refine Rn_sipush dX6_init_34 rfl ?_
  refine Rn_putfield (ci := 6) (k := 4) dX6_init_37 rfl in_6 tyX6_ok nmX6 (Nat.le_of_ble_eq_true rfl) wd_211 rfl (Or.inl rfl) trivial m3 h2 ?_
  exact k
theorem BX6_init_40 {d bc bs : Nat} {h : aH} {n : Nat} {Q : aQ} {r0 : Option Nat} (k : Q none h n) : Rn d (bc) (bs) mX6_init 40 [some (vR r0)] [] h n Q := by
  exact Rn_return rfl dX6_init_40 k
theorem dX6_copyFrom_0 : decode cX6_copyFrom 0 = .ok (.aload_n 1, 1) := by decide +kernel
theorem dX6_copyFrom_1 : decode cX6_copyFrom 1 = .ok (.getfield 9, 3) := by decide +kernel
theorem dX6_copyFrom_4 : decode cX6_copyFrom 4 = .ok (.aload_n 0, 1) := by decide +kernel
theorem dX6_copyFrom_5 : decode cX6_copyFrom 5 = .ok (.getfield 9, 3) := by decide +kernel
theorem dX6_copyFrom_8 : decode cX6_copyFrom 8 = .ok (.invokestatic 32, 3) := by decide +kernel
theorem dX6_copyFrom_11 : decode cX6_copyFrom 11 = .ok (.aload_n 0, 1) := by decide +kernel
theorem dX6_copyFrom_12 : decode cX6_copyFrom 12 = .ok (.getfield 18, 3) := by decide +kernel
theorem dX6_copyFrom_15 : decode cX6_copyFrom 15 = .ok (.aload_n 1, 1) := by decide +kernel
theorem dX6_copyFrom_16 : decode cX6_copyFrom 16 = .ok (.getfield 18, 3) := by decide +kernel
theorem dX6_copyFrom_19 : decode cX6_copyFrom 19 = .ok (.invokevirtual 36, 3) := by decide +kernel
theorem dX6_copyFrom_22 : decode cX6_copyFrom 22 = .ok (.aload_n 0, 1) := by decide +kernel
theorem dX6_copyFrom_23 : decode cX6_copyFrom 23 = .ok (.aload_n 1, 1) := by decide +kernel
theorem dX6_copyFrom_24 : decode cX6_copyFrom 24 = .ok (.getfield 22, 3) := by decide +kernel
theorem dX6_copyFrom_27 : decode cX6_copyFrom 27 = .ok (.putfield 22, 3) := by decide +kernel
theorem dX6_copyFrom_30 : decode cX6_copyFrom 30 = .ok (.aload_n 0, 1) := by decide +kernel
theorem dX6_copyFrom_31 : decode cX6_copyFrom 31 = .ok (.aload_n 1, 1) := by decide +kernel
theorem dX6_copyFrom_32 : decode cX6_copyFrom 32 = .ok (.getfield 26, 3) := by decide +kernel
theorem dX6_copyFrom_35 : decode cX6_copyFrom 35 = .ok (.putfield 26, 3) := by decide +kernel
theorem dX6_copyFrom_38 : decode cX6_copyFrom 38 = .ok (.aload_n 0, 1) := by decide +kernel
theorem dX6_copyFrom_39 : decode cX6_copyFrom 39 = .ok (.aload_n 1, 1) := by decide +kernel
theorem dX6_copyFrom_40 : decode cX6_copyFrom 40 = .ok (.getfield 29, 3) := by decide +kernel
theorem dX6_copyFrom_43 : decode cX6_copyFrom 43 = .ok (.putfield 29, 3) := by decide +kernel
theorem dX6_copyFrom_46 : decode cX6_copyFrom 46 = .ok (.return_, 1) := by decide +kernel
theorem BX6_copyFrom_0 {d bc bs : Nat} {h : aH} {n : Nat} {Q : aQ} {ar0 ar1 : Nat} {f1 f5 : List aV} {t3 t7 : Option Nat} (h2 : h ar1 = cO 6 f1) (g4 : f1[0]? = some (vR t3)) (h6 : h ar0 = cO 6 f5) (g8 : f5[0]? = some (vR t7)) (k : Rn d 0 0 mX12_copyRow 0 [some (vR t3), some (vR t7)] [] h n (fun v h1 n1 => Rn (d + 1) bc bs mX6_copyFrom 11 [some (vR (some ar0)), some (vR (some ar1))] (v.toList ++ []) h1 n1 Q)) : Rn (d + 1) (bc) (bs) mX6_copyFrom 0 [some (vR (some ar0)), some (vR (some ar1))] [] h n Q := by
  refine Rn_aload_n dX6_copyFrom_0 rfl rfl rfl ?_
  refine Rn_getfield (ci := 6) (k := 0) dX6_copyFrom_1 rfl in_6 (Nat.le_of_ble_eq_true rfl) wd_202 rfl h2 g4 ?_
  refine Rn_aload_n dX6_copyFrom_4 rfl rfl rfl ?_
  refine Rn_getfield (ci := 6) (k := 0) dX6_copyFrom_5 rfl in_6 (Nat.le_of_ble_eq_true rfl) wd_202 rfl h6 g8 ?_
  exact Rn_callS (avs := [vR t3, vR t7]) (st := []) (bc1 := 0) (bs1 := 0) (bc2 := bc) (bs2 := bs) fx_X12_copyRow dX6_copyFrom_8 (Or.inr ⟨"BottledPost", List.mem_of_getElem? (i := 17) rfl⟩) wd_802 rfl (Nat.le_of_ble_eq_true rfl) (Nat.le_of_ble_eq_true rfl) (by omega) (by omega) (ls1 := [some (vR t3), some (vR t7)]) rfl k
theorem BX6_copyFrom_11 {d bc bs : Nat} {h : aH} {n : Nat} {Q : aQ} {ar0 ar1 at3 : Nat} {f1 f5 f9 : List aV} {t7 : Option Nat} (h2 : h ar0 = cO 6 f1) (g4 : f1[1]? = some (vR (some at3))) (h6 : h ar1 = cO 6 f5) (g8 : f5[1]? = some (vR t7)) (h10 : h at3 = cO 0 f9) (k : Rn d 0 0 mX0_copyFrom 0 [some (vR (some at3)), some (vR t7)] [] h n (fun v h1 n1 => Rn (d + 1) bc bs mX6_copyFrom 22 [some (vR (some ar0)), some (vR (some ar1))] (v.toList ++ []) h1 n1 Q)) : Rn (d + 1) (bc) (bs) mX6_copyFrom 11 [some (vR (some ar0)), some (vR (some ar1))] [] h n Q := by
  refine Rn_aload_n dX6_copyFrom_11 rfl rfl rfl ?_
  refine Rn_getfield (ci := 6) (k := 1) dX6_copyFrom_12 rfl in_6 (Nat.le_of_ble_eq_true rfl) wd_203 rfl h2 g4 ?_
  refine Rn_aload_n dX6_copyFrom_15 rfl rfl rfl ?_
  refine Rn_getfield (ci := 6) (k := 1) dX6_copyFrom_16 rfl in_6 (Nat.le_of_ble_eq_true rfl) wd_203 rfl h6 g8 ?_
  exact Rn_callV (ci := 0) (avs := [vR t7]) (st := []) (bc1 := 0) (bs1 := 0) (bc2 := bc) (bs2 := bs) fx_X0_copyFrom dX6_copyFrom_19 wd_806 wd_807 wd_808 rfl h10 rfl (Nat.le_of_ble_eq_true rfl) (Nat.le_of_ble_eq_true rfl) (by omega) (by omega) (ls1 := [some (vR (some at3)), some (vR t7)]) rfl k
theorem BX6_copyFrom_22 {d bc bs : Nat} {h : aH} {n : Nat} {Q : aQ} {ar0 ar1 : Nat} {f1 f5 : List aV} {v3 : Int} (h2 : h ar1 = cO 6 f1) (g4 : f1[2]? = some (vI v3)) (h6 : h ar0 = cO 6 f5) (m7 : 2 < f5.length) (k : Rn d bc bs mX6_copyFrom 30 [some (vR (some ar0)), some (vR (some ar1))] [] (up h ar0 (cO 6 (f5.set 2 (vI v3)))) n Q) : Rn d (bc) (bs) mX6_copyFrom 22 [some (vR (some ar0)), some (vR (some ar1))] [] h n Q := by
  refine Rn_aload_n dX6_copyFrom_22 rfl rfl rfl ?_
  refine Rn_aload_n dX6_copyFrom_23 rfl rfl rfl ?_
  refine Rn_getfield (ci := 6) (k := 2) dX6_copyFrom_24 rfl in_6 (Nat.le_of_ble_eq_true rfl) wd_205 rfl h2 g4 ?_
  refine Rn_putfield (ci := 6) (k := 2) dX6_copyFrom_27 rfl in_6 tyX6_ok nmX6 (Nat.le_of_ble_eq_true rfl) wd_205 rfl (Or.inl rfl) trivial m7 h6 ?_
  exact k
theorem BX6_copyFrom_30 {d bc bs : Nat} {h : aH} {n : Nat} {Q : aQ} {ar0 ar1 : Nat} {f1 f5 : List aV} {v3 : Int} (h2 : h ar1 = cO 6 f1) (g4 : f1[3]? = some (vI v3)) (h6 : h ar0 = cO 6 f5) (m7 : 3 < f5.length) (k : Rn d bc bs mX6_copyFrom 38 [some (vR (some ar0)), some (vR (some ar1))] [] (up h ar0 (cO 6 (f5.set 3 (vI v3)))) n Q) : Rn d (bc) (bs) mX6_copyFrom 30 [some (vR (some ar0)), some (vR (some ar1))] [] h n Q := by
  refine Rn_aload_n dX6_copyFrom_30 rfl rfl rfl ?_
  refine Rn_aload_n dX6_copyFrom_31 rfl rfl rfl ?_
  refine Rn_getfield (ci := 6) (k := 3) dX6_copyFrom_32 rfl in_6 (Nat.le_of_ble_eq_true rfl) wd_208 rfl h2 g4 ?_
  refine Rn_putfield (ci := 6) (k := 3) dX6_copyFrom_35 rfl in_6 tyX6_ok nmX6 (Nat.le_of_ble_eq_true rfl) wd_208 rfl (Or.inl rfl) trivial m7 h6 ?_
  exact k
theorem BX6_copyFrom_38 {d bc bs : Nat} {h : aH} {n : Nat} {Q : aQ} {ar0 ar1 : Nat} {f1 f5 : List aV} {v3 : Int} (h2 : h ar1 = cO 6 f1) (g4 : f1[4]? = some (vI v3)) (h6 : h ar0 = cO 6 f5) (m7 : 4 < f5.length) (k : Rn d bc bs mX6_copyFrom 46 [some (vR (some ar0)), some (vR (some ar1))] [] (up h ar0 (cO 6 (f5.set 4 (vI v3)))) n Q) : Rn d (bc) (bs) mX6_copyFrom 38 [some (vR (some ar0)), some (vR (some ar1))] [] h n Q := by
  refine Rn_aload_n dX6_copyFrom_38 rfl rfl rfl ?_
  refine Rn_aload_n dX6_copyFrom_39 rfl rfl rfl ?_
  refine Rn_getfield (ci := 6) (k := 4) dX6_copyFrom_40 rfl in_6 (Nat.le_of_ble_eq_true rfl) wd_211 rfl h2 g4 ?_
  refine Rn_putfield (ci := 6) (k := 4) dX6_copyFrom_43 rfl in_6 tyX6_ok nmX6 (Nat.le_of_ble_eq_true rfl) wd_211 rfl (Or.inl rfl) trivial m7 h6 ?_
  exact k
theorem BX6_copyFrom_46 {d bc bs : Nat} {h : aH} {n : Nat} {Q : aQ} {r0 r1 : Option Nat} (k : Q none h n) : Rn d (bc) (bs) mX6_copyFrom 46 [some (vR r0), some (vR r1)] [] h n Q := by
  exact Rn_return rfl dX6_copyFrom_46 k
theorem dX6_get_0 : decode cX6_get 0 = .ok (.iload_n 1, 1) := by decide +kernel
theorem dX6_get_1 : decode cX6_get 1 = .ok (.bipush 6, 2) := by decide +kernel
theorem dX6_get_3 : decode cX6_get 3 = .ok (.imul, 1) := by decide +kernel
theorem dX6_get_4 : decode cX6_get 4 = .ok (.iload_n 2, 1) := by decide +kernel
theorem dX6_get_5 : decode cX6_get 5 = .ok (.iadd, 1) := by decide +kernel
theorem dX6_get_6 : decode cX6_get 6 = .ok (.istore_n 3, 1) := by decide +kernel
theorem dX6_get_7 : decode cX6_get 7 = .ok (.iload_n 3, 1) := by decide +kernel
theorem dX6_get_8 : decode cX6_get 8 = .ok (.ifCond .lt 21, 3) := by decide +kernel
theorem dX6_get_11 : decode cX6_get 11 = .ok (.iload_n 3, 1) := by decide +kernel
theorem dX6_get_12 : decode cX6_get 12 = .ok (.aload_n 0, 1) := by decide +kernel
theorem dX6_get_13 : decode cX6_get 13 = .ok (.getfield 9, 3) := by decide +kernel
theorem dX6_get_16 : decode cX6_get 16 = .ok (.arraylength, 1) := by decide +kernel
theorem dX6_get_17 : decode cX6_get 17 = .ok (.if_icmp .ge 12, 3) := by decide +kernel
theorem dX6_get_20 : decode cX6_get 20 = .ok (.aload_n 0, 1) := by decide +kernel
theorem dX6_get_21 : decode cX6_get 21 = .ok (.getfield 9, 3) := by decide +kernel
theorem dX6_get_24 : decode cX6_get 24 = .ok (.iload_n 3, 1) := by decide +kernel
theorem dX6_get_25 : decode cX6_get 25 = .ok (.iaload, 1) := by decide +kernel
theorem dX6_get_26 : decode cX6_get 26 = .ok (.goto 4, 3) := by decide +kernel
theorem dX6_get_29 : decode cX6_get 29 = .ok (.iconst 0, 1) := by decide +kernel
theorem dX6_get_30 : decode cX6_get 30 = .ok (.ireturn, 1) := by decide +kernel
theorem BX6_get_0 {d bc bs : Nat} {h : aH} {n : Nat} {Q : aQ} {r0 : Option Nat} {x1 x2 : Int} {l3 : Option aV} (b1 : -2147483648 ≤ x1 * 6 ∧ x1 * 6 < 2147483648) (b2 : -2147483648 ≤ (x1 * 6) + x2 ∧ (x1 * 6) + x2 < 2147483648) (kt : ((x1 * 6) + x2) < 0 → Rn d bc bs mX6_get 29 [some (vR r0), some (vI x1), some (vI x2), some (vI ((x1 * 6) + x2))] [] h n Q) (kf : 0 ≤ ((x1 * 6) + x2) → Rn d bc bs mX6_get 11 [some (vR r0), some (vI x1), some (vI x2), some (vI ((x1 * 6) + x2))] [] h n Q) : Rn d (bc) (bs) mX6_get 0 [some (vR r0), some (vI x1), some (vI x2), l3] [] h n Q := by
  refine Rn_iload_n dX6_get_0 rfl rfl ?_
  refine Rn_bipush dX6_get_1 rfl ?_
  refine Rn_imul dX6_get_3 ?_
  rw [w32_id b1.1 b1.2]
  refine Rn_iload_n dX6_get_4 rfl rfl ?_
  refine Rn_iadd dX6_get_5 ?_
  rw [w32_id b2.1 b2.2]
  refine Rn_istore_n dX6_get_6 rfl (Nat.le_of_ble_eq_true rfl) rfl rfl ?_
  refine Rn_iload_n dX6_get_7 rfl rfl ?_
  refine Rn_iflt (tgt := 29) dX6_get_8 rfl ?_ ?_
  · exact kt
  · exact kf
theorem BX6_get_11 {d bc bs : Nat} {h : aH} {n : Nat} {Q : aQ} {ar0 at3 : Nat} {x1 x2 x3 : Int} {f1 : List aV} {w5 : List Int} (h2 : h ar0 = cO 6 f1) (g4 : f1[0]? = some (vR (some at3))) (h6 : h at3 = cI w5) (y7 : w5.length < 2147483648) (z8 : at3 ≠ 0) (kt : (w5.length : Int) ≤ x3 → Rn d bc bs mX6_get 29 [some (vR (some ar0)), some (vI x1), some (vI x2), some (vI x3)] [] h n Q) (kf : x3 < (w5.length : Int) → Rn d bc bs mX6_get 20 [some (vR (some ar0)), some (vI x1), some (vI x2), some (vI x3)] [] h n Q) : Rn d (bc) (bs) mX6_get 11 [some (vR (some ar0)), some (vI x1), some (vI x2), some (vI x3)] [] h n Q := by
  refine Rn_iload_n dX6_get_11 rfl rfl ?_
  refine Rn_aload_n dX6_get_12 rfl rfl rfl ?_
  refine Rn_getfield (ci := 6) (k := 0) dX6_get_13 rfl in_6 (Nat.le_of_ble_eq_true rfl) wd_202 rfl h2 g4 ?_
  refine Rn_alenI dX6_get_16 z8 h6 y7 ?_
  refine Rn_icmpge (tgt := 29) dX6_get_17 rfl ?_ ?_
  · exact kt
  · exact kf
theorem BX6_get_20 {d bc bs : Nat} {h : aH} {n : Nat} {Q : aQ} {ar0 at3 : Nat} {x1 x2 x3 v7 : Int} {f1 : List aV} {w5 : List Int} (h2 : h ar0 = cO 6 f1) (g4 : f1[0]? = some (vR (some at3))) (h6 : h at3 = cI w5) (i8 : 0 ≤ x3) (g9 : w5[(x3 : Int).toNat]? = some v7) (k : Q (some (vI v7)) h n) : Rn d (bc) (bs) mX6_get 20 [some (vR (some ar0)), some (vI x1), some (vI x2), some (vI x3)] [] h n Q := by
  refine Rn_aload_n dX6_get_20 rfl rfl rfl ?_
  refine Rn_getfield (ci := 6) (k := 0) dX6_get_21 rfl in_6 (Nat.le_of_ble_eq_true rfl) wd_202 rfl h2 g4 ?_
  refine Rn_iload_n dX6_get_24 rfl rfl ?_
  refine Rn_iaload dX6_get_25 h6 i8 g9 ?_
  refine Rn_goto (tgt := 30) dX6_get_26 rfl ?_
  exact Rn_ireturn rfl dX6_get_30 k
theorem BX6_get_29 {d bc bs : Nat} {h : aH} {n : Nat} {Q : aQ} {r0 : Option Nat} {x1 x2 x3 : Int} (k : Q (some (vI 0)) h n) : Rn d (bc) (bs) mX6_get 29 [some (vR r0), some (vI x1), some (vI x2), some (vI x3)] [] h n Q := by
  refine Rn_iconst dX6_get_29 rfl ?_
  exact Rn_ireturn rfl dX6_get_30 k
theorem dX6_set_0 : decode cX6_set 0 = .ok (.iload_n 1, 1) := by decide +kernel
theorem dX6_set_1 : decode cX6_set 1 = .ok (.bipush 6, 2) := by decide +kernel
theorem dX6_set_3 : decode cX6_set 3 = .ok (.imul, 1) := by decide +kernel
theorem dX6_set_4 : decode cX6_set 4 = .ok (.iload_n 2, 1) := by decide +kernel
theorem dX6_set_5 : decode cX6_set 5 = .ok (.iadd, 1) := by decide +kernel
theorem dX6_set_6 : decode cX6_set 6 = .ok (.istore 4, 2) := by decide +kernel
theorem dX6_set_8 : decode cX6_set 8 = .ok (.iload 4, 2) := by decide +kernel
theorem dX6_set_10 : decode cX6_set 10 = .ok (.ifCond .lt 21, 3) := by decide +kernel
theorem dX6_set_13 : decode cX6_set 13 = .ok (.iload 4, 2) := by decide +kernel
theorem dX6_set_15 : decode cX6_set 15 = .ok (.aload_n 0, 1) := by decide +kernel
theorem dX6_set_16 : decode cX6_set 16 = .ok (.getfield 9, 3) := by decide +kernel
theorem dX6_set_19 : decode cX6_set 19 = .ok (.arraylength, 1) := by decide +kernel
theorem dX6_set_20 : decode cX6_set 20 = .ok (.if_icmp .ge 11, 3) := by decide +kernel
theorem dX6_set_23 : decode cX6_set 23 = .ok (.aload_n 0, 1) := by decide +kernel
theorem dX6_set_24 : decode cX6_set 24 = .ok (.getfield 9, 3) := by decide +kernel
theorem dX6_set_27 : decode cX6_set 27 = .ok (.iload 4, 2) := by decide +kernel
theorem dX6_set_29 : decode cX6_set 29 = .ok (.iload_n 3, 1) := by decide +kernel
theorem dX6_set_30 : decode cX6_set 30 = .ok (.iastore, 1) := by decide +kernel
theorem dX6_set_31 : decode cX6_set 31 = .ok (.return_, 1) := by decide +kernel
theorem BX6_set_0 {d bc bs : Nat} {h : aH} {n : Nat} {Q : aQ} {r0 : Option Nat} {x1 x2 x3 : Int} {l4 : Option aV} (b1 : -2147483648 ≤ x1 * 6 ∧ x1 * 6 < 2147483648) (b2 : -2147483648 ≤ (x1 * 6) + x2 ∧ (x1 * 6) + x2 < 2147483648) (kt : ((x1 * 6) + x2) < 0 → Rn d bc bs mX6_set 31 [some (vR r0), some (vI x1), some (vI x2), some (vI x3), some (vI ((x1 * 6) + x2))] [] h n Q) (kf : 0 ≤ ((x1 * 6) + x2) → Rn d bc bs mX6_set 13 [some (vR r0), some (vI x1), some (vI x2), some (vI x3), some (vI ((x1 * 6) + x2))] [] h n Q) : Rn d (bc) (bs) mX6_set 0 [some (vR r0), some (vI x1), some (vI x2), some (vI x3), l4] [] h n Q := by
  refine Rn_iload_n dX6_set_0 rfl rfl ?_
  refine Rn_bipush dX6_set_1 rfl ?_
  refine Rn_imul dX6_set_3 ?_
  rw [w32_id b1.1 b1.2]
  refine Rn_iload_n dX6_set_4 rfl rfl ?_
  refine Rn_iadd dX6_set_5 ?_
  rw [w32_id b2.1 b2.2]
  refine Rn_istore dX6_set_6 (Nat.le_of_ble_eq_true rfl) rfl rfl ?_
  refine Rn_iload dX6_set_8 rfl ?_
  refine Rn_iflt (tgt := 31) dX6_set_10 rfl ?_ ?_
  · exact kt
  · exact kf
theorem BX6_set_13 {d bc bs : Nat} {h : aH} {n : Nat} {Q : aQ} {ar0 at3 : Nat} {x1 x2 x3 x4 : Int} {f1 : List aV} {w5 : List Int} (h2 : h ar0 = cO 6 f1) (g4 : f1[0]? = some (vR (some at3))) (h6 : h at3 = cI w5) (y7 : w5.length < 2147483648) (z8 : at3 ≠ 0) (kt : (w5.length : Int) ≤ x4 → Rn d bc bs mX6_set 31 [some (vR (some ar0)), some (vI x1), some (vI x2), some (vI x3), some (vI x4)] [] h n Q) (kf : x4 < (w5.length : Int) → Rn d bc bs mX6_set 23 [some (vR (some ar0)), some (vI x1), some (vI x2), some (vI x3), some (vI x4)] [] h n Q) : Rn d (bc) (bs) mX6_set 13 [some (vR (some ar0)), some (vI x1), some (vI x2), some (vI x3), some (vI x4)] [] h n Q := by
  refine Rn_iload dX6_set_13 rfl ?_
  refine Rn_aload_n dX6_set_15 rfl rfl rfl ?_
  refine Rn_getfield (ci := 6) (k := 0) dX6_set_16 rfl in_6 (Nat.le_of_ble_eq_true rfl) wd_202 rfl h2 g4 ?_
  refine Rn_alenI dX6_set_19 z8 h6 y7 ?_
  refine Rn_icmpge (tgt := 31) dX6_set_20 rfl ?_ ?_
  · exact kt
  · exact kf
theorem BX6_set_23 {d bc bs : Nat} {h : aH} {n : Nat} {Q : aQ} {ar0 at3 : Nat} {x1 x2 x3 x4 : Int} {f1 : List aV} {w5 : List Int} (h2 : h ar0 = cO 6 f1) (g4 : f1[0]? = some (vR (some at3))) (h6 : h at3 = cI w5) (i7 : 0 ≤ x4) (j8 : x4 < w5.length) (z9 : at3 ≠ 0) (k : Rn d bc bs mX6_set 31 [some (vR (some ar0)), some (vI x1), some (vI x2), some (vI x3), some (vI x4)] [] (up h at3 (cI (w5.set (x4 : Int).toNat x3))) n Q) : Rn d (bc) (bs) mX6_set 23 [some (vR (some ar0)), some (vI x1), some (vI x2), some (vI x3), some (vI x4)] [] h n Q := by
  refine Rn_aload_n dX6_set_23 rfl rfl rfl ?_
  refine Rn_getfield (ci := 6) (k := 0) dX6_set_24 rfl in_6 (Nat.le_of_ble_eq_true rfl) wd_202 rfl h2 g4 ?_
  refine Rn_iload dX6_set_27 rfl ?_
  refine Rn_iload_n dX6_set_29 rfl rfl ?_
  refine Rn_iastore dX6_set_30 z9 h6 i7 j8 ?_
  exact k
theorem BX6_set_31 {d bc bs : Nat} {h : aH} {n : Nat} {Q : aQ} {r0 : Option Nat} {x1 x2 x3 x4 : Int} (k : Q none h n) : Rn d (bc) (bs) mX6_set 31 [some (vR r0), some (vI x1), some (vI x2), some (vI x3), some (vI x4)] [] h n Q := by
  exact Rn_return rfl dX6_set_31 k
theorem dX6_hasBottle_0 : decode cX6_hasBottle 0 = .ok (.iload_n 1, 1) := by decide +kernel
theorem dX6_hasBottle_1 : decode cX6_hasBottle 1 = .ok (.ifCond .lt 15, 3) := by decide +kernel
theorem dX6_hasBottle_4 : decode cX6_hasBottle 4 = .ok (.iload_n 1, 1) := by decide +kernel
theorem dX6_hasBottle_5 : decode cX6_hasBottle 5 = .ok (.aload_n 0, 1) := by decide +kernel
theorem dX6_hasBottle_6 : decode cX6_hasBottle 6 = .ok (.getfield 22, 3) := by decide +kernel
theorem dX6_hasBottle_9 : decode cX6_hasBottle 9 = .ok (.if_icmp .ge 7, 3) := by decide +kernel
theorem dX6_hasBottle_12 : decode cX6_hasBottle 12 = .ok (.iconst 1, 1) := by decide +kernel
theorem dX6_hasBottle_13 : decode cX6_hasBottle 13 = .ok (.goto 4, 3) := by decide +kernel
theorem dX6_hasBottle_16 : decode cX6_hasBottle 16 = .ok (.iconst 0, 1) := by decide +kernel
theorem dX6_hasBottle_17 : decode cX6_hasBottle 17 = .ok (.ireturn, 1) := by decide +kernel
theorem BX6_hasBottle_0 {d bc bs : Nat} {h : aH} {n : Nat} {Q : aQ} {r0 : Option Nat} {x1 : Int} (kt : x1 < 0 → Rn d bc bs mX6_hasBottle 16 [some (vR r0), some (vI x1)] [] h n Q) (kf : 0 ≤ x1 → Rn d bc bs mX6_hasBottle 4 [some (vR r0), some (vI x1)] [] h n Q) : Rn d (bc) (bs) mX6_hasBottle 0 [some (vR r0), some (vI x1)] [] h n Q := by
  refine Rn_iload_n dX6_hasBottle_0 rfl rfl ?_
  refine Rn_iflt (tgt := 16) dX6_hasBottle_1 rfl ?_ ?_
  · exact kt
  · exact kf
theorem BX6_hasBottle_4 {d bc bs : Nat} {h : aH} {n : Nat} {Q : aQ} {ar0 : Nat} {x1 v3 : Int} {f1 : List aV} (h2 : h ar0 = cO 6 f1) (g4 : f1[2]? = some (vI v3)) (kt : v3 ≤ x1 → Rn d bc bs mX6_hasBottle 16 [some (vR (some ar0)), some (vI x1)] [] h n Q) (kf : x1 < v3 → Rn d bc bs mX6_hasBottle 12 [some (vR (some ar0)), some (vI x1)] [] h n Q) : Rn d (bc) (bs) mX6_hasBottle 4 [some (vR (some ar0)), some (vI x1)] [] h n Q := by
  refine Rn_iload_n dX6_hasBottle_4 rfl rfl ?_
  refine Rn_aload_n dX6_hasBottle_5 rfl rfl rfl ?_
  refine Rn_getfield (ci := 6) (k := 2) dX6_hasBottle_6 rfl in_6 (Nat.le_of_ble_eq_true rfl) wd_205 rfl h2 g4 ?_
  refine Rn_icmpge (tgt := 16) dX6_hasBottle_9 rfl ?_ ?_
  · exact kt
  · exact kf
theorem BX6_hasBottle_12 {d bc bs : Nat} {h : aH} {n : Nat} {Q : aQ} {r0 : Option Nat} {x1 : Int} (k : Q (some (vI 1)) h n) : Rn d (bc) (bs) mX6_hasBottle 12 [some (vR r0), some (vI x1)] [] h n Q := by
  refine Rn_iconst dX6_hasBottle_12 rfl ?_
  refine Rn_goto (tgt := 17) dX6_hasBottle_13 rfl ?_
  exact Rn_zreturn rfl dX6_hasBottle_17 (by decide) k
theorem BX6_hasBottle_16 {d bc bs : Nat} {h : aH} {n : Nat} {Q : aQ} {r0 : Option Nat} {x1 : Int} (k : Q (some (vI 0)) h n) : Rn d (bc) (bs) mX6_hasBottle 16 [some (vR r0), some (vI x1)] [] h n Q := by
  refine Rn_iconst dX6_hasBottle_16 rfl ?_
  exact Rn_zreturn rfl dX6_hasBottle_17 (by decide) k
theorem dX6_isAfloat_0 : decode cX6_isAfloat 0 = .ok (.aload_n 0, 1) := by decide +kernel
theorem dX6_isAfloat_1 : decode cX6_isAfloat 1 = .ok (.iload_n 1, 1) := by decide +kernel
theorem dX6_isAfloat_2 : decode cX6_isAfloat 2 = .ok (.invokevirtual 40, 3) := by decide +kernel
theorem dX6_isAfloat_5 : decode cX6_isAfloat 5 = .ok (.ifCond .eq 16, 3) := by decide +kernel
theorem dX6_isAfloat_8 : decode cX6_isAfloat 8 = .ok (.aload_n 0, 1) := by decide +kernel
theorem dX6_isAfloat_9 : decode cX6_isAfloat 9 = .ok (.iload_n 1, 1) := by decide +kernel
theorem dX6_isAfloat_10 : decode cX6_isAfloat 10 = .ok (.iconst 4, 1) := by decide +kernel
theorem dX6_isAfloat_11 : decode cX6_isAfloat 11 = .ok (.invokevirtual 44, 3) := by decide +kernel
theorem dX6_isAfloat_14 : decode cX6_isAfloat 14 = .ok (.ifCond .ne 7, 3) := by decide +kernel
theorem dX6_isAfloat_17 : decode cX6_isAfloat 17 = .ok (.iconst 1, 1) := by decide +kernel
theorem dX6_isAfloat_18 : decode cX6_isAfloat 18 = .ok (.goto 4, 3) := by decide +kernel
theorem dX6_isAfloat_21 : decode cX6_isAfloat 21 = .ok (.iconst 0, 1) := by decide +kernel
theorem dX6_isAfloat_22 : decode cX6_isAfloat 22 = .ok (.ireturn, 1) := by decide +kernel
theorem BX6_isAfloat_0 {d bc bs : Nat} {h : aH} {n : Nat} {Q : aQ} {ar0 : Nat} {x1 : Int} {f1 : List aV} (h2 : h ar0 = cO 6 f1) (k : Rn d 0 0 mX6_hasBottle 0 [some (vR (some ar0)), some (vI x1)] [] h n (fun v h1 n1 => Rn (d + 1) bc bs mX6_isAfloat 5 [some (vR (some ar0)), some (vI x1)] (v.toList ++ []) h1 n1 Q)) : Rn (d + 1) (bc) (bs) mX6_isAfloat 0 [some (vR (some ar0)), some (vI x1)] [] h n Q := by
  refine Rn_aload_n dX6_isAfloat_0 rfl rfl rfl ?_
  refine Rn_iload_n dX6_isAfloat_1 rfl rfl ?_
  exact Rn_callV (ci := 6) (avs := [vI x1]) (st := []) (bc1 := 0) (bs1 := 0) (bc2 := bc) (bs2 := bs) fx_X6_hasBottle dX6_isAfloat_2 wd_835 wd_836 wd_837 rfl h2 rfl (Nat.le_of_ble_eq_true rfl) (Nat.le_of_ble_eq_true rfl) (by omega) (by omega) (ls1 := [some (vR (some ar0)), some (vI x1)]) rfl k
theorem BX6_isAfloat_5 {d bc bs : Nat} {h : aH} {n : Nat} {Q : aQ} {r0 : Option Nat} {x1 s0 : Int} (kt : s0 = 0 → Rn d bc bs mX6_isAfloat 21 [some (vR r0), some (vI x1)] [] h n Q) (kf : s0 ≠ 0 → Rn d bc bs mX6_isAfloat 8 [some (vR r0), some (vI x1)] [] h n Q) : Rn d (bc) (bs) mX6_isAfloat 5 [some (vR r0), some (vI x1)] [vI s0] h n Q := by
  refine Rn_ifeq (tgt := 21) dX6_isAfloat_5 rfl ?_ ?_
  · exact kt
  · exact kf
theorem BX6_isAfloat_8 {d bc bs : Nat} {h : aH} {n : Nat} {Q : aQ} {ar0 : Nat} {x1 : Int} {f1 : List aV} (h2 : h ar0 = cO 6 f1) (k : Rn d 0 0 mX6_get 0 [some (vR (some ar0)), some (vI x1), some (vI 4), none] [] h n (fun v h1 n1 => Rn (d + 1) bc bs mX6_isAfloat 14 [some (vR (some ar0)), some (vI x1)] (v.toList ++ []) h1 n1 Q)) : Rn (d + 1) (bc) (bs) mX6_isAfloat 8 [some (vR (some ar0)), some (vI x1)] [] h n Q := by
  refine Rn_aload_n dX6_isAfloat_8 rfl rfl rfl ?_
  refine Rn_iload_n dX6_isAfloat_9 rfl rfl ?_
  refine Rn_iconst dX6_isAfloat_10 rfl ?_
  exact Rn_callV (ci := 6) (avs := [vI x1, vI 4]) (st := []) (bc1 := 0) (bs1 := 0) (bc2 := bc) (bs2 := bs) fx_X6_get dX6_isAfloat_11 wd_839 wd_840 wd_841 rfl h2 rfl (Nat.le_of_ble_eq_true rfl) (Nat.le_of_ble_eq_true rfl) (by omega) (by omega) (ls1 := [some (vR (some ar0)), some (vI x1), some (vI 4), none]) rfl k
theorem BX6_isAfloat_14 {d bc bs : Nat} {h : aH} {n : Nat} {Q : aQ} {r0 : Option Nat} {x1 s0 : Int} (kt : s0 ≠ 0 → Rn d bc bs mX6_isAfloat 21 [some (vR r0), some (vI x1)] [] h n Q) (kf : s0 = 0 → Rn d bc bs mX6_isAfloat 17 [some (vR r0), some (vI x1)] [] h n Q) : Rn d (bc) (bs) mX6_isAfloat 14 [some (vR r0), some (vI x1)] [vI s0] h n Q := by
  refine Rn_ifne (tgt := 21) dX6_isAfloat_14 rfl ?_ ?_
  · exact kt
  · exact kf
theorem BX6_isAfloat_17 {d bc bs : Nat} {h : aH} {n : Nat} {Q : aQ} {r0 : Option Nat} {x1 : Int} (k : Q (some (vI 1)) h n) : Rn d (bc) (bs) mX6_isAfloat 17 [some (vR r0), some (vI x1)] [] h n Q := by
  refine Rn_iconst dX6_isAfloat_17 rfl ?_
  refine Rn_goto (tgt := 22) dX6_isAfloat_18 rfl ?_
  exact Rn_zreturn rfl dX6_isAfloat_22 (by decide) k
theorem BX6_isAfloat_21 {d bc bs : Nat} {h : aH} {n : Nat} {Q : aQ} {r0 : Option Nat} {x1 : Int} (k : Q (some (vI 0)) h n) : Rn d (bc) (bs) mX6_isAfloat 21 [some (vR r0), some (vI x1)] [] h n Q := by
  refine Rn_iconst dX6_isAfloat_21 rfl ?_
  exact Rn_zreturn rfl dX6_isAfloat_22 (by decide) k
theorem dX6_addBottle_0 : decode cX6_addBottle 0 = .ok (.aload_n 0, 1) := by decide +kernel
theorem dX6_addBottle_1 : decode cX6_addBottle 1 = .ok (.getfield 22, 3) := by decide +kernel
theorem dX6_addBottle_4 : decode cX6_addBottle 4 = .ok (.istore 5, 2) := by decide +kernel
theorem dX6_addBottle_6 : decode cX6_addBottle 6 = .ok (.aload_n 0, 1) := by decide +kernel
theorem dX6_addBottle_7 : decode cX6_addBottle 7 = .ok (.dup, 1) := by decide +kernel
theorem dX6_addBottle_8 : decode cX6_addBottle 8 = .ok (.getfield 22, 3) := by decide +kernel
theorem dX6_addBottle_11 : decode cX6_addBottle 11 = .ok (.iconst 1, 1) := by decide +kernel
theorem dX6_addBottle_12 : decode cX6_addBottle 12 = .ok (.iadd, 1) := by decide +kernel
theorem dX6_addBottle_13 : decode cX6_addBottle 13 = .ok (.putfield 22, 3) := by decide +kernel
theorem dX6_addBottle_16 : decode cX6_addBottle 16 = .ok (.aload_n 0, 1) := by decide +kernel
theorem dX6_addBottle_17 : decode cX6_addBottle 17 = .ok (.iload 5, 2) := by decide +kernel
theorem dX6_addBottle_19 : decode cX6_addBottle 19 = .ok (.iconst 0, 1) := by decide +kernel
theorem dX6_addBottle_20 : decode cX6_addBottle 20 = .ok (.iload_n 1, 1) := by decide +kernel
theorem dX6_addBottle_21 : decode cX6_addBottle 21 = .ok (.invokevirtual 48, 3) := by decide +kernel
theorem dX6_addBottle_24 : decode cX6_addBottle 24 = .ok (.aload_n 0, 1) := by decide +kernel
theorem dX6_addBottle_25 : decode cX6_addBottle 25 = .ok (.iload 5, 2) := by decide +kernel
theorem dX6_addBottle_27 : decode cX6_addBottle 27 = .ok (.iconst 1, 1) := by decide +kernel
theorem dX6_addBottle_28 : decode cX6_addBottle 28 = .ok (.iload_n 2, 1) := by decide +kernel
theorem dX6_addBottle_29 : decode cX6_addBottle 29 = .ok (.invokevirtual 48, 3) := by decide +kernel
theorem dX6_addBottle_32 : decode cX6_addBottle 32 = .ok (.aload_n 0, 1) := by decide +kernel
theorem dX6_addBottle_33 : decode cX6_addBottle 33 = .ok (.iload 5, 2) := by decide +kernel
theorem dX6_addBottle_35 : decode cX6_addBottle 35 = .ok (.iconst 2, 1) := by decide +kernel
theorem dX6_addBottle_36 : decode cX6_addBottle 36 = .ok (.iload_n 3, 1) := by decide +kernel
theorem dX6_addBottle_37 : decode cX6_addBottle 37 = .ok (.invokevirtual 48, 3) := by decide +kernel
theorem dX6_addBottle_40 : decode cX6_addBottle 40 = .ok (.aload_n 0, 1) := by decide +kernel
theorem dX6_addBottle_41 : decode cX6_addBottle 41 = .ok (.iload 5, 2) := by decide +kernel
theorem dX6_addBottle_43 : decode cX6_addBottle 43 = .ok (.iconst 3, 1) := by decide +kernel
theorem dX6_addBottle_44 : decode cX6_addBottle 44 = .ok (.iload 4, 2) := by decide +kernel
theorem dX6_addBottle_46 : decode cX6_addBottle 46 = .ok (.invokevirtual 48, 3) := by decide +kernel
theorem dX6_addBottle_49 : decode cX6_addBottle 49 = .ok (.aload_n 0, 1) := by decide +kernel
theorem dX6_addBottle_50 : decode cX6_addBottle 50 = .ok (.iload 5, 2) := by decide +kernel
theorem dX6_addBottle_52 : decode cX6_addBottle 52 = .ok (.iconst 4, 1) := by decide +kernel
theorem dX6_addBottle_53 : decode cX6_addBottle 53 = .ok (.iconst 0, 1) := by decide +kernel
theorem dX6_addBottle_54 : decode cX6_addBottle 54 = .ok (.invokevirtual 48, 3) := by decide +kernel
theorem dX6_addBottle_57 : decode cX6_addBottle 57 = .ok (.aload_n 0, 1) := by decide +kernel
theorem dX6_addBottle_58 : decode cX6_addBottle 58 = .ok (.iload 5, 2) := by decide +kernel
theorem dX6_addBottle_60 : decode cX6_addBottle 60 = .ok (.iconst 5, 1) := by decide +kernel
theorem dX6_addBottle_61 : decode cX6_addBottle 61 = .ok (.aload_n 0, 1) := by decide +kernel
theorem dX6_addBottle_62 : decode cX6_addBottle 62 = .ok (.getfield 26, 3) := by decide +kernel
theorem dX6_addBottle_65 : decode cX6_addBottle 65 = .ok (.invokevirtual 48, 3) := by decide +kernel
theorem dX6_addBottle_68 : decode cX6_addBottle 68 = .ok (.iload 5, 2) := by decide +kernel
theorem dX6_addBottle_70 : decode cX6_addBottle 70 = .ok (.ireturn, 1) := by decide +kernel
theorem BX6_addBottle_0 {d bc bs : Nat} {h : aH} {n : Nat} {Q : aQ} {ar0 : Nat} {x1 x2 x3 x4 v3 : Int} {l5 : Option aV} {f1 : List aV} (h2 : h ar0 = cO 6 f1) (g4 : f1[2]? = some (vI v3)) (b5 : -2147483648 ≤ v3 + 1 ∧ v3 + 1 < 2147483648) (m6 : 2 < f1.length) (k : Rn d bc bs mX6_addBottle 16 [some (vR (some ar0)), some (vI x1), some (vI x2), some (vI x3), some (vI x4), some (vI v3)] [] (up h ar0 (cO 6 (f1.set 2 (vI (v3 + 1))))) n Q) : Rn d (bc) (bs) mX6_addBottle 0 [some (vR (some ar0)), some (vI x1), some (vI x2), some (vI x3), some (vI x4), l5] [] h n Q := by
  refine Rn_aload_n dX6_addBottle_0 rfl rfl rfl ?_
  refine Rn_getfield (ci := 6) (k := 2) dX6_addBottle_1 rfl in_6 (Nat.le_of_ble_eq_true rfl) wd_205 rfl h2 g4 ?_
  refine Rn_istore dX6_addBottle_4 (Nat.le_of_ble_eq_true rfl) rfl rfl ?_
  refine Rn_aload_n dX6_addBottle_6 rfl rfl rfl ?_
  refine Rn_dup dX6_addBottle_7 rfl ?_
  refine Rn_getfield (ci := 6) (k := 2) dX6_addBottle_8 rfl in_6 (Nat.le_of_ble_eq_true rfl) wd_205 rfl h2 g4 ?_
  refine Rn_iconst dX6_addBottle_11 rfl ?_
  refine Rn_iadd dX6_addBottle_12 ?_
  rw [w32_id b5.1 b5.2]
  refine Rn_putfield (ci := 6) (k := 2) dX6_addBottle_13 rfl in_6 tyX6_ok nmX6 (Nat.le_of_ble_eq_true rfl) wd_205 rfl (Or.inl rfl) trivial m6 h2 ?_
  exact k
theorem BX6_addBottle_16 {d bc bs : Nat} {h : aH} {n : Nat} {Q : aQ} {ar0 : Nat} {x1 x2 x3 x4 x5 : Int} {f1 : List aV} (h2 : h ar0 = cO 6 f1) (k : Rn d 0 0 mX6_set 0 [some (vR (some ar0)), some (vI x5), some (vI 0), some (vI x1), none] [] h n (fun v h1 n1 => Rn (d + 1) bc bs mX6_addBottle 24 [some (vR (some ar0)), some (vI x1), some (vI x2), some (vI x3), some (vI x4), some (vI x5)] (v.toList ++ []) h1 n1 Q)) : Rn (d + 1) (bc) (bs) mX6_addBottle 16 [some (vR (some ar0)), some (vI x1), some (vI x2), some (vI x3), some (vI x4), some (vI x5)] [] h n Q := by
  refine Rn_aload_n dX6_addBottle_16 rfl rfl rfl ?_
  refine Rn_iload dX6_addBottle_17 rfl ?_
  refine Rn_iconst dX6_addBottle_19 rfl ?_
  refine Rn_iload_n dX6_addBottle_20 rfl rfl ?_
  exact Rn_callV (ci := 6) (avs := [vI x5, vI 0, vI x1]) (st := []) (bc1 := 0) (bs1 := 0) (bc2 := bc) (bs2 := bs) fx_X6_set dX6_addBottle_21 wd_819 wd_820 wd_821 rfl h2 rfl (Nat.le_of_ble_eq_true rfl) (Nat.le_of_ble_eq_true rfl) (by omega) (by omega) (ls1 := [some (vR (some ar0)), some (vI x5), some (vI 0), some (vI x1), none]) rfl k
theorem BX6_addBottle_24 {d bc bs : Nat} {h : aH} {n : Nat} {Q : aQ} {ar0 : Nat} {x1 x2 x3 x4 x5 : Int} {f1 : List aV} (h2 : h ar0 = cO 6 f1) (k : Rn d 0 0 mX6_set 0 [some (vR (some ar0)), some (vI x5), some (vI 1), some (vI x2), none] [] h n (fun v h1 n1 => Rn (d + 1) bc bs mX6_addBottle 32 [some (vR (some ar0)), some (vI x1), some (vI x2), some (vI x3), some (vI x4), some (vI x5)] (v.toList ++ []) h1 n1 Q)) : Rn (d + 1) (bc) (bs) mX6_addBottle 24 [some (vR (some ar0)), some (vI x1), some (vI x2), some (vI x3), some (vI x4), some (vI x5)] [] h n Q := by
  refine Rn_aload_n dX6_addBottle_24 rfl rfl rfl ?_
  refine Rn_iload dX6_addBottle_25 rfl ?_
  refine Rn_iconst dX6_addBottle_27 rfl ?_
  refine Rn_iload_n dX6_addBottle_28 rfl rfl ?_
  exact Rn_callV (ci := 6) (avs := [vI x5, vI 1, vI x2]) (st := []) (bc1 := 0) (bs1 := 0) (bc2 := bc) (bs2 := bs) fx_X6_set dX6_addBottle_29 wd_819 wd_820 wd_821 rfl h2 rfl (Nat.le_of_ble_eq_true rfl) (Nat.le_of_ble_eq_true rfl) (by omega) (by omega) (ls1 := [some (vR (some ar0)), some (vI x5), some (vI 1), some (vI x2), none]) rfl k
theorem BX6_addBottle_32 {d bc bs : Nat} {h : aH} {n : Nat} {Q : aQ} {ar0 : Nat} {x1 x2 x3 x4 x5 : Int} {f1 : List aV} (h2 : h ar0 = cO 6 f1) (k : Rn d 0 0 mX6_set 0 [some (vR (some ar0)), some (vI x5), some (vI 2), some (vI x3), none] [] h n (fun v h1 n1 => Rn (d + 1) bc bs mX6_addBottle 40 [some (vR (some ar0)), some (vI x1), some (vI x2), some (vI x3), some (vI x4), some (vI x5)] (v.toList ++ []) h1 n1 Q)) : Rn (d + 1) (bc) (bs) mX6_addBottle 32 [some (vR (some ar0)), some (vI x1), some (vI x2), some (vI x3), some (vI x4), some (vI x5)] [] h n Q := by
  refine Rn_aload_n dX6_addBottle_32 rfl rfl rfl ?_
  refine Rn_iload dX6_addBottle_33 rfl ?_
  refine Rn_iconst dX6_addBottle_35 rfl ?_
  refine Rn_iload_n dX6_addBottle_36 rfl rfl ?_
  exact Rn_callV (ci := 6) (avs := [vI x5, vI 2, vI x3]) (st := []) (bc1 := 0) (bs1 := 0) (bc2 := bc) (bs2 := bs) fx_X6_set dX6_addBottle_37 wd_819 wd_820 wd_821 rfl h2 rfl (Nat.le_of_ble_eq_true rfl) (Nat.le_of_ble_eq_true rfl) (by omega) (by omega) (ls1 := [some (vR (some ar0)), some (vI x5), some (vI 2), some (vI x3), none]) rfl k
theorem BX6_addBottle_40 {d bc bs : Nat} {h : aH} {n : Nat} {Q : aQ} {ar0 : Nat} {x1 x2 x3 x4 x5 : Int} {f1 : List aV} (h2 : h ar0 = cO 6 f1) (k : Rn d 0 0 mX6_set 0 [some (vR (some ar0)), some (vI x5), some (vI 3), some (vI x4), none] [] h n (fun v h1 n1 => Rn (d + 1) bc bs mX6_addBottle 49 [some (vR (some ar0)), some (vI x1), some (vI x2), some (vI x3), some (vI x4), some (vI x5)] (v.toList ++ []) h1 n1 Q)) : Rn (d + 1) (bc) (bs) mX6_addBottle 40 [some (vR (some ar0)), some (vI x1), some (vI x2), some (vI x3), some (vI x4), some (vI x5)] [] h n Q := by
  refine Rn_aload_n dX6_addBottle_40 rfl rfl rfl ?_
  refine Rn_iload dX6_addBottle_41 rfl ?_
  refine Rn_iconst dX6_addBottle_43 rfl ?_
  refine Rn_iload dX6_addBottle_44 rfl ?_
  exact Rn_callV (ci := 6) (avs := [vI x5, vI 3, vI x4]) (st := []) (bc1 := 0) (bs1 := 0) (bc2 := bc) (bs2 := bs) fx_X6_set dX6_addBottle_46 wd_819 wd_820 wd_821 rfl h2 rfl (Nat.le_of_ble_eq_true rfl) (Nat.le_of_ble_eq_true rfl) (by omega) (by omega) (ls1 := [some (vR (some ar0)), some (vI x5), some (vI 3), some (vI x4), none]) rfl k
theorem BX6_addBottle_49 {d bc bs : Nat} {h : aH} {n : Nat} {Q : aQ} {ar0 : Nat} {x1 x2 x3 x4 x5 : Int} {f1 : List aV} (h2 : h ar0 = cO 6 f1) (k : Rn d 0 0 mX6_set 0 [some (vR (some ar0)), some (vI x5), some (vI 4), some (vI 0), none] [] h n (fun v h1 n1 => Rn (d + 1) bc bs mX6_addBottle 57 [some (vR (some ar0)), some (vI x1), some (vI x2), some (vI x3), some (vI x4), some (vI x5)] (v.toList ++ []) h1 n1 Q)) : Rn (d + 1) (bc) (bs) mX6_addBottle 49 [some (vR (some ar0)), some (vI x1), some (vI x2), some (vI x3), some (vI x4), some (vI x5)] [] h n Q := by
  refine Rn_aload_n dX6_addBottle_49 rfl rfl rfl ?_
  refine Rn_iload dX6_addBottle_50 rfl ?_
  refine Rn_iconst dX6_addBottle_52 rfl ?_
  refine Rn_iconst dX6_addBottle_53 rfl ?_
  exact Rn_callV (ci := 6) (avs := [vI x5, vI 4, vI 0]) (st := []) (bc1 := 0) (bs1 := 0) (bc2 := bc) (bs2 := bs) fx_X6_set dX6_addBottle_54 wd_819 wd_820 wd_821 rfl h2 rfl (Nat.le_of_ble_eq_true rfl) (Nat.le_of_ble_eq_true rfl) (by omega) (by omega) (ls1 := [some (vR (some ar0)), some (vI x5), some (vI 4), some (vI 0), none]) rfl k
theorem BX6_addBottle_57 {d bc bs : Nat} {h : aH} {n : Nat} {Q : aQ} {ar0 : Nat} {x1 x2 x3 x4 x5 v3 : Int} {f1 : List aV} (h2 : h ar0 = cO 6 f1) (g4 : f1[3]? = some (vI v3)) (k : Rn d 0 0 mX6_set 0 [some (vR (some ar0)), some (vI x5), some (vI 5), some (vI v3), none] [] h n (fun v h1 n1 => Rn (d + 1) bc bs mX6_addBottle 68 [some (vR (some ar0)), some (vI x1), some (vI x2), some (vI x3), some (vI x4), some (vI x5)] (v.toList ++ []) h1 n1 Q)) : Rn (d + 1) (bc) (bs) mX6_addBottle 57 [some (vR (some ar0)), some (vI x1), some (vI x2), some (vI x3), some (vI x4), some (vI x5)] [] h n Q := by
  refine Rn_aload_n dX6_addBottle_57 rfl rfl rfl ?_
  refine Rn_iload dX6_addBottle_58 rfl ?_
  refine Rn_iconst dX6_addBottle_60 rfl ?_
  refine Rn_aload_n dX6_addBottle_61 rfl rfl rfl ?_
  refine Rn_getfield (ci := 6) (k := 3) dX6_addBottle_62 rfl in_6 (Nat.le_of_ble_eq_true rfl) wd_208 rfl h2 g4 ?_
  exact Rn_callV (ci := 6) (avs := [vI x5, vI 5, vI v3]) (st := []) (bc1 := 0) (bs1 := 0) (bc2 := bc) (bs2 := bs) fx_X6_set dX6_addBottle_65 wd_819 wd_820 wd_821 rfl h2 rfl (Nat.le_of_ble_eq_true rfl) (Nat.le_of_ble_eq_true rfl) (by omega) (by omega) (ls1 := [some (vR (some ar0)), some (vI x5), some (vI 5), some (vI v3), none]) rfl k
theorem BX6_addBottle_68 {d bc bs : Nat} {h : aH} {n : Nat} {Q : aQ} {r0 : Option Nat} {x1 x2 x3 x4 x5 : Int} (k : Q (some (vI x5)) h n) : Rn d (bc) (bs) mX6_addBottle 68 [some (vR r0), some (vI x1), some (vI x2), some (vI x3), some (vI x4), some (vI x5)] [] h n Q := by
  refine Rn_iload dX6_addBottle_68 rfl ?_
  exact Rn_ireturn rfl dX6_addBottle_70 k
theorem dX6_draw_0 : decode cX6_draw 0 = .ok (.aload_n 0, 1) := by decide +kernel
theorem dX6_draw_1 : decode cX6_draw 1 = .ok (.getfield 29, 3) := by decide +kernel
theorem dX6_draw_4 : decode cX6_draw 4 = .ok (.istore_n 1, 1) := by decide +kernel
theorem dX6_draw_5 : decode cX6_draw 5 = .ok (.aload_n 0, 1) := by decide +kernel
theorem dX6_draw_6 : decode cX6_draw 6 = .ok (.aload_n 0, 1) := by decide +kernel
theorem dX6_draw_7 : decode cX6_draw 7 = .ok (.getfield 29, 3) := by decide +kernel
theorem dX6_draw_10 : decode cX6_draw 10 = .ok (.sipush 461, 3) := by decide +kernel
theorem dX6_draw_13 : decode cX6_draw 13 = .ok (.imul, 1) := by decide +kernel
theorem dX6_draw_14 : decode cX6_draw 14 = .ok (.sipush 349, 3) := by decide +kernel
theorem dX6_draw_17 : decode cX6_draw 17 = .ok (.iadd, 1) := by decide +kernel
theorem dX6_draw_18 : decode cX6_draw 18 = .ok (.sipush 30637, 3) := by decide +kernel
theorem dX6_draw_21 : decode cX6_draw 21 = .ok (.irem, 1) := by decide +kernel
theorem dX6_draw_22 : decode cX6_draw 22 = .ok (.putfield 29, 3) := by decide +kernel
theorem dX6_draw_25 : decode cX6_draw 25 = .ok (.iload_n 1, 1) := by decide +kernel
theorem dX6_draw_26 : decode cX6_draw 26 = .ok (.ireturn, 1) := by decide +kernel
theorem BX6_draw_0 {d bc bs : Nat} {h : aH} {n : Nat} {Q : aQ} {ar0 : Nat} {l1 : Option aV} {f1 : List aV} {v3 : Int} (h2 : h ar0 = cO 6 f1) (g4 : f1[4]? = some (vI v3)) (b5 : -2147483648 ≤ v3 * 461 ∧ v3 * 461 < 2147483648) (b6 : -2147483648 ≤ (v3 * 461) + 349 ∧ (v3 * 461) + 349 < 2147483648) (b7 : 0 ≤ ((v3 * 461) + 349)) (m8 : 4 < f1.length) (k : Rn d bc bs mX6_draw 25 [some (vR (some ar0)), some (vI v3)] [] (up h ar0 (cO 6 (f1.set 4 (vI (((v3 * 461) + 349) % 30637))))) n Q) : Rn d (bc) (bs) mX6_draw 0 [some (vR (some ar0)), l1] [] h n Q := by
  refine Rn_aload_n dX6_draw_0 rfl rfl rfl ?_
  refine Rn_getfield (ci := 6) (k := 4) dX6_draw_1 rfl in_6 (Nat.le_of_ble_eq_true rfl) wd_211 rfl h2 g4 ?_
  refine Rn_istore_n dX6_draw_4 rfl (Nat.le_of_ble_eq_true rfl) rfl rfl ?_
  refine Rn_aload_n dX6_draw_5 rfl rfl rfl ?_
  refine Rn_aload_n dX6_draw_6 rfl rfl rfl ?_
  refine Rn_getfield (ci := 6) (k := 4) dX6_draw_7 rfl in_6 (Nat.le_of_ble_eq_true rfl) wd_211 rfl h2 g4 ?_
  refine Rn_sipush dX6_draw_10 rfl ?_
  refine Rn_imul dX6_draw_13 ?_
  rw [w32_id b5.1 b5.2]
  refine Rn_sipush dX6_draw_14 rfl ?_
  refine Rn_iadd dX6_draw_17 ?_
  rw [w32_id b6.1 b6.2]
  refine Rn_sipush dX6_draw_18 rfl ?_
  refine Rn_irem dX6_draw_21 (by decide) ?_
  rw [Int.tmod_eq_emod_of_nonneg b7]
  refine Rn_putfield (ci := 6) (k := 4) dX6_draw_22 rfl in_6 tyX6_ok nmX6 (Nat.le_of_ble_eq_true rfl) wd_211 rfl (Or.inl rfl) trivial m8 h2 ?_
  exact k
theorem BX6_draw_25 {d bc bs : Nat} {h : aH} {n : Nat} {Q : aQ} {r0 : Option Nat} {x1 : Int} (k : Q (some (vI x1)) h n) : Rn d (bc) (bs) mX6_draw 25 [some (vR r0), some (vI x1)] [] h n Q := by
  refine Rn_iload_n dX6_draw_25 rfl rfl ?_
  exact Rn_ireturn rfl dX6_draw_26 k
theorem dX6_writeDown_0 : decode cX6_writeDown 0 = .ok (.aload_n 0, 1) := by decide +kernel
theorem dX6_writeDown_1 : decode cX6_writeDown 1 = .ok (.getfield 18, 3) := by decide +kernel
theorem dX6_writeDown_4 : decode cX6_writeDown 4 = .ok (.aload_n 0, 1) := by decide +kernel
theorem dX6_writeDown_5 : decode cX6_writeDown 5 = .ok (.getfield 26, 3) := by decide +kernel
theorem dX6_writeDown_8 : decode cX6_writeDown 8 = .ok (.iload_n 1, 1) := by decide +kernel
theorem dX6_writeDown_9 : decode cX6_writeDown 9 = .ok (.iload_n 2, 1) := by decide +kernel
theorem dX6_writeDown_10 : decode cX6_writeDown 10 = .ok (.aload_n 0, 1) := by decide +kernel
theorem dX6_writeDown_11 : decode cX6_writeDown 11 = .ok (.iload_n 1, 1) := by decide +kernel
theorem dX6_writeDown_12 : decode cX6_writeDown 12 = .ok (.iconst 2, 1) := by decide +kernel
theorem dX6_writeDown_13 : decode cX6_writeDown 13 = .ok (.invokevirtual 44, 3) := by decide +kernel
theorem dX6_writeDown_16 : decode cX6_writeDown 16 = .ok (.invokevirtual 52, 3) := by decide +kernel
theorem dX6_writeDown_19 : decode cX6_writeDown 19 = .ok (.return_, 1) := by decide +kernel
theorem BX6_writeDown_0 {d bc bs : Nat} {h : aH} {n : Nat} {Q : aQ} {ar0 : Nat} {x1 x2 v5 : Int} {f1 : List aV} {t3 : Option Nat} (h2 : h ar0 = cO 6 f1) (g4 : f1[1]? = some (vR t3)) (g6 : f1[3]? = some (vI v5)) (k : Rn d 0 0 mX6_get 0 [some (vR (some ar0)), some (vI x1), some (vI 2), none] [] h n (fun v h1 n1 => Rn (d + 1) bc bs mX6_writeDown 16 [some (vR (some ar0)), some (vI x1), some (vI x2)] (v.toList ++ [vI x2, vI x1, vI v5, vR t3]) h1 n1 Q)) : Rn (d + 1) (bc) (bs) mX6_writeDown 0 [some (vR (some ar0)), some (vI x1), some (vI x2)] [] h n Q := by
  refine Rn_aload_n dX6_writeDown_0 rfl rfl rfl ?_
  refine Rn_getfield (ci := 6) (k := 1) dX6_writeDown_1 rfl in_6 (Nat.le_of_ble_eq_true rfl) wd_203 rfl h2 g4 ?_
  refine Rn_aload_n dX6_writeDown_4 rfl rfl rfl ?_
  refine Rn_getfield (ci := 6) (k := 3) dX6_writeDown_5 rfl in_6 (Nat.le_of_ble_eq_true rfl) wd_208 rfl h2 g6 ?_
  refine Rn_iload_n dX6_writeDown_8 rfl rfl ?_
  refine Rn_iload_n dX6_writeDown_9 rfl rfl ?_
  refine Rn_aload_n dX6_writeDown_10 rfl rfl rfl ?_
  refine Rn_iload_n dX6_writeDown_11 rfl rfl ?_
  refine Rn_iconst dX6_writeDown_12 rfl ?_
  exact Rn_callV (ci := 6) (avs := [vI x1, vI 2]) (st := [vI x2, vI x1, vI v5, vR t3]) (bc1 := 0) (bs1 := 0) (bc2 := bc) (bs2 := bs) fx_X6_get dX6_writeDown_13 wd_839 wd_840 wd_841 rfl h2 rfl (Nat.le_of_ble_eq_true rfl) (Nat.le_of_ble_eq_true rfl) (by omega) (by omega) (ls1 := [some (vR (some ar0)), some (vI x1), some (vI 2), none]) rfl k
theorem BX6_writeDown_16 {d bc bs : Nat} {h : aH} {n : Nat} {Q : aQ} {r0 : Option Nat} {x1 x2 s1 s2 s3 s4 : Int} {aq0 : Nat} {f1 : List aV} (h2 : h aq0 = cO 0 f1) (k : Rn d 0 0 mX0_addLine 0 [some (vR (some aq0)), some (vI s1), some (vI s2), some (vI s3), some (vI s4), none] [] h n (fun v h1 n1 => Rn (d + 1) bc bs mX6_writeDown 19 [some (vR r0), some (vI x1), some (vI x2)] (v.toList ++ []) h1 n1 Q)) : Rn (d + 1) (bc) (bs) mX6_writeDown 16 [some (vR r0), some (vI x1), some (vI x2)] [vI s4, vI s3, vI s2, vI s1, vR (some aq0)] h n Q := by
  exact Rn_callV (ci := 0) (avs := [vI s1, vI s2, vI s3, vI s4]) (st := []) (bc1 := 0) (bs1 := 0) (bc2 := bc) (bs2 := bs) fx_X0_addLine dX6_writeDown_16 wd_849 wd_850 wd_851 rfl h2 rfl (Nat.le_of_ble_eq_true rfl) (Nat.le_of_ble_eq_true rfl) (by omega) (by omega) (ls1 := [some (vR (some aq0)), some (vI s1), some (vI s2), some (vI s3), some (vI s4), none]) rfl k
theorem BX6_writeDown_19 {d bc bs : Nat} {h : aH} {n : Nat} {Q : aQ} {r0 : Option Nat} {x1 x2 : Int} (k : Q none h n) : Rn d (bc) (bs) mX6_writeDown 19 [some (vR r0), some (vI x1), some (vI x2)] [] h n Q := by
  exact Rn_return rfl dX6_writeDown_19 k
theorem dX6_countComeTo_0 : decode cX6_countComeTo 0 = .ok (.iconst 0, 1) := by decide +kernel
theorem dX6_countComeTo_1 : decode cX6_countComeTo 1 = .ok (.istore_n 2, 1) := by decide +kernel
theorem dX6_countComeTo_2 : decode cX6_countComeTo 2 = .ok (.iconst 0, 1) := by decide +kernel
theorem dX6_countComeTo_3 : decode cX6_countComeTo 3 = .ok (.istore_n 3, 1) := by decide +kernel
theorem dX6_countComeTo_4 : decode cX6_countComeTo 4 = .ok (.iload_n 3, 1) := by decide +kernel
theorem dX6_countComeTo_5 : decode cX6_countComeTo 5 = .ok (.aload_n 0, 1) := by decide +kernel
theorem dX6_countComeTo_6 : decode cX6_countComeTo 6 = .ok (.getfield 22, 3) := by decide +kernel
theorem dX6_countComeTo_9 : decode cX6_countComeTo 9 = .ok (.if_icmp .ge 32, 3) := by decide +kernel
theorem dX6_countComeTo_12 : decode cX6_countComeTo 12 = .ok (.aload_n 0, 1) := by decide +kernel
theorem dX6_countComeTo_13 : decode cX6_countComeTo 13 = .ok (.iload_n 3, 1) := by decide +kernel
theorem dX6_countComeTo_14 : decode cX6_countComeTo 14 = .ok (.iconst 4, 1) := by decide +kernel
theorem dX6_countComeTo_15 : decode cX6_countComeTo 15 = .ok (.invokevirtual 44, 3) := by decide +kernel
theorem dX6_countComeTo_18 : decode cX6_countComeTo 18 = .ok (.iconst 1, 1) := by decide +kernel
theorem dX6_countComeTo_19 : decode cX6_countComeTo 19 = .ok (.if_icmp .ne 16, 3) := by decide +kernel
theorem dX6_countComeTo_22 : decode cX6_countComeTo 22 = .ok (.aload_n 0, 1) := by decide +kernel
theorem dX6_countComeTo_23 : decode cX6_countComeTo 23 = .ok (.iload_n 3, 1) := by decide +kernel
theorem dX6_countComeTo_24 : decode cX6_countComeTo 24 = .ok (.iconst 1, 1) := by decide +kernel
theorem dX6_countComeTo_25 : decode cX6_countComeTo 25 = .ok (.invokevirtual 44, 3) := by decide +kernel
theorem dX6_countComeTo_28 : decode cX6_countComeTo 28 = .ok (.iload_n 1, 1) := by decide +kernel
theorem dX6_countComeTo_29 : decode cX6_countComeTo 29 = .ok (.if_icmp .ne 6, 3) := by decide +kernel
theorem dX6_countComeTo_32 : decode cX6_countComeTo 32 = .ok (.iinc 2 1, 3) := by decide +kernel
theorem dX6_countComeTo_35 : decode cX6_countComeTo 35 = .ok (.iinc 3 1, 3) := by decide +kernel
theorem dX6_countComeTo_38 : decode cX6_countComeTo 38 = .ok (.goto (-34), 3) := by decide +kernel
theorem dX6_countComeTo_41 : decode cX6_countComeTo 41 = .ok (.iload_n 2, 1) := by decide +kernel
theorem dX6_countComeTo_42 : decode cX6_countComeTo 42 = .ok (.ireturn, 1) := by decide +kernel
theorem BX6_countComeTo_0 {d bc bs : Nat} {h : aH} {n : Nat} {Q : aQ} {r0 : Option Nat} {x1 : Int} {l2 l3 : Option aV} (k : Rn d bc bs mX6_countComeTo 4 [some (vR r0), some (vI x1), some (vI 0), some (vI 0)] [] h n Q) : Rn d (bc) (bs) mX6_countComeTo 0 [some (vR r0), some (vI x1), l2, l3] [] h n Q := by
  refine Rn_iconst dX6_countComeTo_0 rfl ?_
  refine Rn_istore_n dX6_countComeTo_1 rfl (Nat.le_of_ble_eq_true rfl) rfl rfl ?_
  refine Rn_iconst dX6_countComeTo_2 rfl ?_
  refine Rn_istore_n dX6_countComeTo_3 rfl (Nat.le_of_ble_eq_true rfl) rfl rfl ?_
  exact k
theorem BX6_countComeTo_4 {d bc bs : Nat} {h : aH} {n : Nat} {Q : aQ} {ar0 : Nat} {x1 x2 x3 v3 : Int} {f1 : List aV} (h2 : h ar0 = cO 6 f1) (g4 : f1[2]? = some (vI v3)) (kt : v3 ≤ x3 → Rn d bc bs mX6_countComeTo 41 [some (vR (some ar0)), some (vI x1), some (vI x2), some (vI x3)] [] h n Q) (kf : x3 < v3 → Rn d bc bs mX6_countComeTo 12 [some (vR (some ar0)), some (vI x1), some (vI x2), some (vI x3)] [] h n Q) : Rn d (bc) (bs) mX6_countComeTo 4 [some (vR (some ar0)), some (vI x1), some (vI x2), some (vI x3)] [] h n Q := by
  refine Rn_iload_n dX6_countComeTo_4 rfl rfl ?_
  refine Rn_aload_n dX6_countComeTo_5 rfl rfl rfl ?_
  refine Rn_getfield (ci := 6) (k := 2) dX6_countComeTo_6 rfl in_6 (Nat.le_of_ble_eq_true rfl) wd_205 rfl h2 g4 ?_
  refine Rn_icmpge (tgt := 41) dX6_countComeTo_9 rfl ?_ ?_
  · exact kt
  · exact kf
theorem BX6_countComeTo_12 {d bc bs : Nat} {h : aH} {n : Nat} {Q : aQ} {ar0 : Nat} {x1 x2 x3 : Int} {f1 : List aV} (h2 : h ar0 = cO 6 f1) (k : Rn d 0 0 mX6_get 0 [some (vR (some ar0)), some (vI x3), some (vI 4), none] [] h n (fun v h1 n1 => Rn (d + 1) bc bs mX6_countComeTo 18 [some (vR (some ar0)), some (vI x1), some (vI x2), some (vI x3)] (v.toList ++ []) h1 n1 Q)) : Rn (d + 1) (bc) (bs) mX6_countComeTo 12 [some (vR (some ar0)), some (vI x1), some (vI x2), some (vI x3)] [] h n Q := by
  refine Rn_aload_n dX6_countComeTo_12 rfl rfl rfl ?_
  refine Rn_iload_n dX6_countComeTo_13 rfl rfl ?_
  refine Rn_iconst dX6_countComeTo_14 rfl ?_
  exact Rn_callV (ci := 6) (avs := [vI x3, vI 4]) (st := []) (bc1 := 0) (bs1 := 0) (bc2 := bc) (bs2 := bs) fx_X6_get dX6_countComeTo_15 wd_839 wd_840 wd_841 rfl h2 rfl (Nat.le_of_ble_eq_true rfl) (Nat.le_of_ble_eq_true rfl) (by omega) (by omega) (ls1 := [some (vR (some ar0)), some (vI x3), some (vI 4), none]) rfl k
theorem BX6_countComeTo_18 {d bc bs : Nat} {h : aH} {n : Nat} {Q : aQ} {r0 : Option Nat} {x1 x2 x3 s0 : Int} (kt : s0 ≠ 1 → Rn d bc bs mX6_countComeTo 35 [some (vR r0), some (vI x1), some (vI x2), some (vI x3)] [] h n Q) (kf : s0 = 1 → Rn d bc bs mX6_countComeTo 22 [some (vR r0), some (vI x1), some (vI x2), some (vI x3)] [] h n Q) : Rn d (bc) (bs) mX6_countComeTo 18 [some (vR r0), some (vI x1), some (vI x2), some (vI x3)] [vI s0] h n Q := by
  refine Rn_iconst dX6_countComeTo_18 rfl ?_
  refine Rn_icmpne (tgt := 35) dX6_countComeTo_19 rfl ?_ ?_
  · exact kt
  · exact kf
theorem BX6_countComeTo_22 {d bc bs : Nat} {h : aH} {n : Nat} {Q : aQ} {ar0 : Nat} {x1 x2 x3 : Int} {f1 : List aV} (h2 : h ar0 = cO 6 f1) (k : Rn d 0 0 mX6_get 0 [some (vR (some ar0)), some (vI x3), some (vI 1), none] [] h n (fun v h1 n1 => Rn (d + 1) bc bs mX6_countComeTo 28 [some (vR (some ar0)), some (vI x1), some (vI x2), some (vI x3)] (v.toList ++ []) h1 n1 Q)) : Rn (d + 1) (bc) (bs) mX6_countComeTo 22 [some (vR (some ar0)), some (vI x1), some (vI x2), some (vI x3)] [] h n Q := by
  refine Rn_aload_n dX6_countComeTo_22 rfl rfl rfl ?_
  refine Rn_iload_n dX6_countComeTo_23 rfl rfl ?_
  refine Rn_iconst dX6_countComeTo_24 rfl ?_
  exact Rn_callV (ci := 6) (avs := [vI x3, vI 1]) (st := []) (bc1 := 0) (bs1 := 0) (bc2 := bc) (bs2 := bs) fx_X6_get dX6_countComeTo_25 wd_839 wd_840 wd_841 rfl h2 rfl (Nat.le_of_ble_eq_true rfl) (Nat.le_of_ble_eq_true rfl) (by omega) (by omega) (ls1 := [some (vR (some ar0)), some (vI x3), some (vI 1), none]) rfl k
theorem BX6_countComeTo_28 {d bc bs : Nat} {h : aH} {n : Nat} {Q : aQ} {r0 : Option Nat} {x1 x2 x3 s0 : Int} (kt : s0 ≠ x1 → Rn d bc bs mX6_countComeTo 35 [some (vR r0), some (vI x1), some (vI x2), some (vI x3)] [] h n Q) (kf : s0 = x1 → Rn d bc bs mX6_countComeTo 32 [some (vR r0), some (vI x1), some (vI x2), some (vI x3)] [] h n Q) : Rn d (bc) (bs) mX6_countComeTo 28 [some (vR r0), some (vI x1), some (vI x2), some (vI x3)] [vI s0] h n Q := by
  refine Rn_iload_n dX6_countComeTo_28 rfl rfl ?_
  refine Rn_icmpne (tgt := 35) dX6_countComeTo_29 rfl ?_ ?_
  · exact kt
  · exact kf
theorem BX6_countComeTo_32 {d bc bs : Nat} {h : aH} {n : Nat} {Q : aQ} {r0 : Option Nat} {x1 x2 x3 : Int} (b1 : -2147483648 ≤ x2 + 1 ∧ x2 + 1 < 2147483648) (b2 : -2147483648 ≤ x3 + 1 ∧ x3 + 1 < 2147483648) (k : Rn d bc bs mX6_countComeTo 4 [some (vR r0), some (vI x1), some (vI (x2 + 1)), some (vI (x3 + 1))] [] h n Q) : Rn d (bc) (bs) mX6_countComeTo 32 [some (vR r0), some (vI x1), some (vI x2), some (vI x3)] [] h n Q := by
  refine Rn_iinc dX6_countComeTo_32 rfl (Nat.le_of_ble_eq_true rfl) rfl rfl rfl ?_
  rw [w32_id b1.1 b1.2]
  refine Rn_iinc dX6_countComeTo_35 rfl (Nat.le_of_ble_eq_true rfl) rfl rfl rfl ?_
  rw [w32_id b2.1 b2.2]
  refine Rn_goto (tgt := 4) dX6_countComeTo_38 rfl ?_
  exact k
theorem BX6_countComeTo_35 {d bc bs : Nat} {h : aH} {n : Nat} {Q : aQ} {r0 : Option Nat} {x1 x2 x3 : Int} (b1 : -2147483648 ≤ x3 + 1 ∧ x3 + 1 < 2147483648) (k : Rn d bc bs mX6_countComeTo 4 [some (vR r0), some (vI x1), some (vI x2), some (vI (x3 + 1))] [] h n Q) : Rn d (bc) (bs) mX6_countComeTo 35 [some (vR r0), some (vI x1), some (vI x2), some (vI x3)] [] h n Q := by
  refine Rn_iinc dX6_countComeTo_35 rfl (Nat.le_of_ble_eq_true rfl) rfl rfl rfl ?_
  rw [w32_id b1.1 b1.2]
  refine Rn_goto (tgt := 4) dX6_countComeTo_38 rfl ?_
  exact k
theorem BX6_countComeTo_41 {d bc bs : Nat} {h : aH} {n : Nat} {Q : aQ} {r0 : Option Nat} {x1 x2 x3 : Int} (k : Q (some (vI x2)) h n) : Rn d (bc) (bs) mX6_countComeTo 41 [some (vR r0), some (vI x1), some (vI x2), some (vI x3)] [] h n Q := by
  refine Rn_iload_n dX6_countComeTo_41 rfl rfl ?_
  exact Rn_ireturn rfl dX6_countComeTo_42 k
theorem dX6_countAfloatAt_0 : decode cX6_countAfloatAt 0 = .ok (.iconst 0, 1) := by decide +kernel
theorem dX6_countAfloatAt_1 : decode cX6_countAfloatAt 1 = .ok (.istore_n 2, 1) := by decide +kernel
theorem dX6_countAfloatAt_2 : decode cX6_countAfloatAt 2 = .ok (.aload_n 0, 1) := by decide +kernel
theorem dX6_countAfloatAt_3 : decode cX6_countAfloatAt 3 = .ok (.getfield 22, 3) := by decide +kernel
theorem dX6_countAfloatAt_6 : decode cX6_countAfloatAt 6 = .ok (.bipush 6, 2) := by decide +kernel
theorem dX6_countAfloatAt_8 : decode cX6_countAfloatAt 8 = .ok (.imul, 1) := by decide +kernel
theorem dX6_countAfloatAt_9 : decode cX6_countAfloatAt 9 = .ok (.aload_n 0, 1) := by decide +kernel
theorem dX6_countAfloatAt_10 : decode cX6_countAfloatAt 10 = .ok (.getfield 9, 3) := by decide +kernel
theorem dX6_countAfloatAt_13 : decode cX6_countAfloatAt 13 = .ok (.arraylength, 1) := by decide +kernel
theorem dX6_countAfloatAt_14 : decode cX6_countAfloatAt 14 = .ok (.iconst 5, 1) := by decide +kernel
theorem dX6_countAfloatAt_15 : decode cX6_countAfloatAt 15 = .ok (.isub, 1) := by decide +kernel
theorem dX6_countAfloatAt_16 : decode cX6_countAfloatAt 16 = .ok (.invokestatic 56, 3) := by decide +kernel
theorem dX6_countAfloatAt_19 : decode cX6_countAfloatAt 19 = .ok (.istore_n 3, 1) := by decide +kernel
theorem dX6_countAfloatAt_20 : decode cX6_countAfloatAt 20 = .ok (.iconst 0, 1) := by decide +kernel
theorem dX6_countAfloatAt_21 : decode cX6_countAfloatAt 21 = .ok (.istore 4, 2) := by decide +kernel
theorem dX6_countAfloatAt_23 : decode cX6_countAfloatAt 23 = .ok (.iload 4, 2) := by decide +kernel
theorem dX6_countAfloatAt_25 : decode cX6_countAfloatAt 25 = .ok (.iload_n 3, 1) := by decide +kernel
theorem dX6_countAfloatAt_26 : decode cX6_countAfloatAt 26 = .ok (.if_icmp .ge 37, 3) := by decide +kernel
theorem dX6_countAfloatAt_29 : decode cX6_countAfloatAt 29 = .ok (.aload_n 0, 1) := by decide +kernel
theorem dX6_countAfloatAt_30 : decode cX6_countAfloatAt 30 = .ok (.getfield 9, 3) := by decide +kernel
theorem dX6_countAfloatAt_33 : decode cX6_countAfloatAt 33 = .ok (.iload 4, 2) := by decide +kernel
theorem dX6_countAfloatAt_35 : decode cX6_countAfloatAt 35 = .ok (.iconst 4, 1) := by decide +kernel
theorem dX6_countAfloatAt_36 : decode cX6_countAfloatAt 36 = .ok (.iadd, 1) := by decide +kernel
theorem dX6_countAfloatAt_37 : decode cX6_countAfloatAt 37 = .ok (.iaload, 1) := by decide +kernel
theorem dX6_countAfloatAt_38 : decode cX6_countAfloatAt 38 = .ok (.ifCond .ne 19, 3) := by decide +kernel
theorem dX6_countAfloatAt_41 : decode cX6_countAfloatAt 41 = .ok (.aload_n 0, 1) := by decide +kernel
theorem dX6_countAfloatAt_42 : decode cX6_countAfloatAt 42 = .ok (.getfield 9, 3) := by decide +kernel
theorem dX6_countAfloatAt_45 : decode cX6_countAfloatAt 45 = .ok (.iload 4, 2) := by decide +kernel
theorem dX6_countAfloatAt_47 : decode cX6_countAfloatAt 47 = .ok (.iconst 2, 1) := by decide +kernel
theorem dX6_countAfloatAt_48 : decode cX6_countAfloatAt 48 = .ok (.iadd, 1) := by decide +kernel
theorem dX6_countAfloatAt_49 : decode cX6_countAfloatAt 49 = .ok (.iaload, 1) := by decide +kernel
theorem dX6_countAfloatAt_50 : decode cX6_countAfloatAt 50 = .ok (.iload_n 1, 1) := by decide +kernel
theorem dX6_countAfloatAt_51 : decode cX6_countAfloatAt 51 = .ok (.if_icmp .ne 6, 3) := by decide +kernel
theorem dX6_countAfloatAt_54 : decode cX6_countAfloatAt 54 = .ok (.iinc 2 1, 3) := by decide +kernel
theorem dX6_countAfloatAt_57 : decode cX6_countAfloatAt 57 = .ok (.iinc 4 6, 3) := by decide +kernel
theorem dX6_countAfloatAt_60 : decode cX6_countAfloatAt 60 = .ok (.goto (-37), 3) := by decide +kernel
theorem dX6_countAfloatAt_63 : decode cX6_countAfloatAt 63 = .ok (.iload_n 2, 1) := by decide +kernel
theorem dX6_countAfloatAt_64 : decode cX6_countAfloatAt 64 = .ok (.ireturn, 1) := by decide +kernel
theorem BX6_countAfloatAt_0 {d bc bs : Nat} {h : aH} {n : Nat} {Q : aQ} {ar0 at6 : Nat} {x1 v3 : Int} {l2 l3 l4 : Option aV} {f1 : List aV} {w8 : List Int} (h2 : h ar0 = cO 6 f1) (g4 : f1[2]? = some (vI v3)) (b5 : -2147483648 ≤ v3 * 6 ∧ v3 * 6 < 2147483648) (g7 : f1[0]? = some (vR (some at6))) (h9 : h at6 = cI w8) (y10 : w8.length < 2147483648) (z11 : at6 ≠ 0) (b12 : -2147483648 ≤ (w8.length : Int) - 5 ∧ (w8.length : Int) - 5 < 2147483648) (k : Rn d 0 0 mJ9_min_7cf53 0 [some (vI (v3 * 6)), some (vI ((w8.length : Int) - 5))] [] h n (fun v h1 n1 => Rn (d + 1) bc bs mX6_countAfloatAt 19 [some (vR (some ar0)), some (vI x1), some (vI 0), l3, l4] (v.toList ++ []) h1 n1 Q)) : Rn (d + 1) (bc) (bs) mX6_countAfloatAt 0 [some (vR (some ar0)), some (vI x1), l2, l3, l4] [] h n Q := by
  refine Rn_iconst dX6_countAfloatAt_0 rfl ?_
  refine Rn_istore_n dX6_countAfloatAt_1 rfl (Nat.le_of_ble_eq_true rfl) rfl rfl ?_
  refine Rn_aload_n dX6_countAfloatAt_2 rfl rfl rfl ?_
  refine Rn_getfield (ci := 6) (k := 2) dX6_countAfloatAt_3 rfl in_6 (Nat.le_of_ble_eq_true rfl) wd_205 rfl h2 g4 ?_
  refine Rn_bipush dX6_countAfloatAt_6 rfl ?_
  refine Rn_imul dX6_countAfloatAt_8 ?_
  rw [w32_id b5.1 b5.2]
  refine Rn_aload_n dX6_countAfloatAt_9 rfl rfl rfl ?_
  refine Rn_getfield (ci := 6) (k := 0) dX6_countAfloatAt_10 rfl in_6 (Nat.le_of_ble_eq_true rfl) wd_202 rfl h2 g7 ?_
  refine Rn_alenI dX6_countAfloatAt_13 z11 h9 y10 ?_
  refine Rn_iconst dX6_countAfloatAt_14 rfl ?_
  refine Rn_isub dX6_countAfloatAt_15 ?_
  rw [w32_id b12.1 b12.2]
  exact Rn_callS (avs := [vI (v3 * 6), vI ((w8.length : Int) - 5)]) (st := []) (bc1 := 0) (bs1 := 0) (bc2 := bc) (bs2 := bs) fx_J9_min_7cf53 dX6_countAfloatAt_16 (Or.inl wd_920) wd_559 rfl (Nat.le_of_ble_eq_true rfl) (Nat.le_of_ble_eq_true rfl) (by omega) (by omega) (ls1 := [some (vI (v3 * 6)), some (vI ((w8.length : Int) - 5))]) rfl k
theorem BX6_countAfloatAt_19 {d bc bs : Nat} {h : aH} {n : Nat} {Q : aQ} {r0 : Option Nat} {x1 x2 s0 : Int} {l3 l4 : Option aV} (k : Rn d bc bs mX6_countAfloatAt 23 [some (vR r0), some (vI x1), some (vI x2), some (vI s0), some (vI 0)] [] h n Q) : Rn d (bc) (bs) mX6_countAfloatAt 19 [some (vR r0), some (vI x1), some (vI x2), l3, l4] [vI s0] h n Q := by
  refine Rn_istore_n dX6_countAfloatAt_19 rfl (Nat.le_of_ble_eq_true rfl) rfl rfl ?_
  refine Rn_iconst dX6_countAfloatAt_20 rfl ?_
  refine Rn_istore dX6_countAfloatAt_21 (Nat.le_of_ble_eq_true rfl) rfl rfl ?_
  exact k
theorem BX6_countAfloatAt_23 {d bc bs : Nat} {h : aH} {n : Nat} {Q : aQ} {r0 : Option Nat} {x1 x2 x3 x4 : Int} (kt : x3 ≤ x4 → Rn d bc bs mX6_countAfloatAt 63 [some (vR r0), some (vI x1), some (vI x2), some (vI x3), some (vI x4)] [] h n Q) (kf : x4 < x3 → Rn d bc bs mX6_countAfloatAt 29 [some (vR r0), some (vI x1), some (vI x2), some (vI x3), some (vI x4)] [] h n Q) : Rn d (bc) (bs) mX6_countAfloatAt 23 [some (vR r0), some (vI x1), some (vI x2), some (vI x3), some (vI x4)] [] h n Q := by
  refine Rn_iload dX6_countAfloatAt_23 rfl ?_
  refine Rn_iload_n dX6_countAfloatAt_25 rfl rfl ?_
  refine Rn_icmpge (tgt := 63) dX6_countAfloatAt_26 rfl ?_ ?_
  · exact kt
  · exact kf
theorem BX6_countAfloatAt_29 {d bc bs : Nat} {h : aH} {n : Nat} {Q : aQ} {ar0 at3 : Nat} {x1 x2 x3 x4 v8 : Int} {f1 : List aV} {w6 : List Int} (h2 : h ar0 = cO 6 f1) (g4 : f1[0]? = some (vR (some at3))) (b5 : -2147483648 ≤ x4 + 4 ∧ x4 + 4 < 2147483648) (h7 : h at3 = cI w6) (i9 : 0 ≤ x4 + 4) (g10 : w6[(x4 + 4 : Int).toNat]? = some v8) (kt : v8 ≠ 0 → Rn d bc bs mX6_countAfloatAt 57 [some (vR (some ar0)), some (vI x1), some (vI x2), some (vI x3), some (vI x4)] [] h n Q) (kf : v8 = 0 → Rn d bc bs mX6_countAfloatAt 41 [some (vR (some ar0)), some (vI x1), some (vI x2), some (vI x3), some (vI x4)] [] h n Q) : Rn d (bc) (bs) mX6_countAfloatAt 29 [some (vR (some ar0)), some (vI x1), some (vI x2), some (vI x3), some (vI x4)] [] h n Q := by
  refine Rn_aload_n dX6_countAfloatAt_29 rfl rfl rfl ?_
  refine Rn_getfield (ci := 6) (k := 0) dX6_countAfloatAt_30 rfl in_6 (Nat.le_of_ble_eq_true rfl) wd_202 rfl h2 g4 ?_
  refine Rn_iload dX6_countAfloatAt_33 rfl ?_
  refine Rn_iconst dX6_countAfloatAt_35 rfl ?_
  refine Rn_iadd dX6_countAfloatAt_36 ?_
  rw [w32_id b5.1 b5.2]
  refine Rn_iaload dX6_countAfloatAt_37 h7 i9 g10 ?_
  refine Rn_ifne (tgt := 57) dX6_countAfloatAt_38 rfl ?_ ?_
  · exact kt
  · exact kf
theorem BX6_countAfloatAt_41 {d bc bs : Nat} {h : aH} {n : Nat} {Q : aQ} {ar0 at3 : Nat} {x1 x2 x3 x4 v8 : Int} {f1 : List aV} {w6 : List Int} (h2 : h ar0 = cO 6 f1) (g4 : f1[0]? = some (vR (some at3))) (b5 : -2147483648 ≤ x4 + 2 ∧ x4 + 2 < 2147483648) (h7 : h at3 = cI w6) (i9 : 0 ≤ x4 + 2) (g10 : w6[(x4 + 2 : Int).toNat]? = some v8) (kt : v8 ≠ x1 → Rn d bc bs mX6_countAfloatAt 57 [some (vR (some ar0)), some (vI x1), some (vI x2), some (vI x3), some (vI x4)] [] h n Q) (kf : v8 = x1 → Rn d bc bs mX6_countAfloatAt 54 [some (vR (some ar0)), some (vI x1), some (vI x2), some (vI x3), some (vI x4)] [] h n Q) : Rn d (bc) (bs) mX6_countAfloatAt 41 [some (vR (some ar0)), some (vI x1), some (vI x2), some (vI x3), some (vI x4)] [] h n Q := by
  refine Rn_aload_n dX6_countAfloatAt_41 rfl rfl rfl ?_
  refine Rn_getfield (ci := 6) (k := 0) dX6_countAfloatAt_42 rfl in_6 (Nat.le_of_ble_eq_true rfl) wd_202 rfl h2 g4 ?_
  refine Rn_iload dX6_countAfloatAt_45 rfl ?_
  refine Rn_iconst dX6_countAfloatAt_47 rfl ?_
  refine Rn_iadd dX6_countAfloatAt_48 ?_
  rw [w32_id b5.1 b5.2]
  refine Rn_iaload dX6_countAfloatAt_49 h7 i9 g10 ?_
  refine Rn_iload_n dX6_countAfloatAt_50 rfl rfl ?_
  refine Rn_icmpne (tgt := 57) dX6_countAfloatAt_51 rfl ?_ ?_
  · exact kt
  · exact kf
theorem BX6_countAfloatAt_54 {d bc bs : Nat} {h : aH} {n : Nat} {Q : aQ} {r0 : Option Nat} {x1 x2 x3 x4 : Int} (b1 : -2147483648 ≤ x2 + 1 ∧ x2 + 1 < 2147483648) (b2 : -2147483648 ≤ x4 + 6 ∧ x4 + 6 < 2147483648) (k : Rn d bc bs mX6_countAfloatAt 23 [some (vR r0), some (vI x1), some (vI (x2 + 1)), some (vI x3), some (vI (x4 + 6))] [] h n Q) : Rn d (bc) (bs) mX6_countAfloatAt 54 [some (vR r0), some (vI x1), some (vI x2), some (vI x3), some (vI x4)] [] h n Q := by
  refine Rn_iinc dX6_countAfloatAt_54 rfl (Nat.le_of_ble_eq_true rfl) rfl rfl rfl ?_
  rw [w32_id b1.1 b1.2]
  refine Rn_iinc dX6_countAfloatAt_57 rfl (Nat.le_of_ble_eq_true rfl) rfl rfl rfl ?_
  rw [w32_id b2.1 b2.2]
  refine Rn_goto (tgt := 23) dX6_countAfloatAt_60 rfl ?_
  exact k
theorem BX6_countAfloatAt_57 {d bc bs : Nat} {h : aH} {n : Nat} {Q : aQ} {r0 : Option Nat} {x1 x2 x3 x4 : Int} (b1 : -2147483648 ≤ x4 + 6 ∧ x4 + 6 < 2147483648) (k : Rn d bc bs mX6_countAfloatAt 23 [some (vR r0), some (vI x1), some (vI x2), some (vI x3), some (vI (x4 + 6))] [] h n Q) : Rn d (bc) (bs) mX6_countAfloatAt 57 [some (vR r0), some (vI x1), some (vI x2), some (vI x3), some (vI x4)] [] h n Q := by
  refine Rn_iinc dX6_countAfloatAt_57 rfl (Nat.le_of_ble_eq_true rfl) rfl rfl rfl ?_
  rw [w32_id b1.1 b1.2]
  refine Rn_goto (tgt := 23) dX6_countAfloatAt_60 rfl ?_
  exact k
theorem BX6_countAfloatAt_63 {d bc bs : Nat} {h : aH} {n : Nat} {Q : aQ} {r0 : Option Nat} {x1 x2 x3 x4 : Int} (k : Q (some (vI x2)) h n) : Rn d (bc) (bs) mX6_countAfloatAt 63 [some (vR r0), some (vI x1), some (vI x2), some (vI x3), some (vI x4)] [] h n Q := by
  refine Rn_iload_n dX6_countAfloatAt_63 rfl rfl ?_
  exact Rn_ireturn rfl dX6_countAfloatAt_64 k
theorem dX6_bottlesThatAre_0 : decode cX6_bottlesThatAre 0 = .ok (.iconst 0, 1) := by decide +kernel
theorem dX6_bottlesThatAre_1 : decode cX6_bottlesThatAre 1 = .ok (.istore_n 2, 1) := by decide +kernel
theorem dX6_bottlesThatAre_2 : decode cX6_bottlesThatAre 2 = .ok (.iconst 0, 1) := by decide +kernel
theorem dX6_bottlesThatAre_3 : decode cX6_bottlesThatAre 3 = .ok (.istore_n 3, 1) := by decide +kernel
theorem dX6_bottlesThatAre_4 : decode cX6_bottlesThatAre 4 = .ok (.iload_n 3, 1) := by decide +kernel
theorem dX6_bottlesThatAre_5 : decode cX6_bottlesThatAre 5 = .ok (.aload_n 0, 1) := by decide +kernel
theorem dX6_bottlesThatAre_6 : decode cX6_bottlesThatAre 6 = .ok (.getfield 22, 3) := by decide +kernel
theorem dX6_bottlesThatAre_9 : decode cX6_bottlesThatAre 9 = .ok (.if_icmp .ge 25, 3) := by decide +kernel
theorem dX6_bottlesThatAre_12 : decode cX6_bottlesThatAre 12 = .ok (.aload_n 0, 1) := by decide +kernel
theorem dX6_bottlesThatAre_13 : decode cX6_bottlesThatAre 13 = .ok (.iload_n 3, 1) := by decide +kernel
theorem dX6_bottlesThatAre_14 : decode cX6_bottlesThatAre 14 = .ok (.iconst 4, 1) := by decide +kernel
theorem dX6_bottlesThatAre_15 : decode cX6_bottlesThatAre 15 = .ok (.invokevirtual 44, 3) := by decide +kernel
theorem dX6_bottlesThatAre_18 : decode cX6_bottlesThatAre 18 = .ok (.iload_n 1, 1) := by decide +kernel
theorem dX6_bottlesThatAre_19 : decode cX6_bottlesThatAre 19 = .ok (.if_icmp .ne 9, 3) := by decide +kernel
theorem dX6_bottlesThatAre_22 : decode cX6_bottlesThatAre 22 = .ok (.iload_n 2, 1) := by decide +kernel
theorem dX6_bottlesThatAre_23 : decode cX6_bottlesThatAre 23 = .ok (.iconst 1, 1) := by decide +kernel
theorem dX6_bottlesThatAre_24 : decode cX6_bottlesThatAre 24 = .ok (.iload_n 3, 1) := by decide +kernel
theorem dX6_bottlesThatAre_25 : decode cX6_bottlesThatAre 25 = .ok (.ishl, 1) := by decide +kernel
theorem dX6_bottlesThatAre_26 : decode cX6_bottlesThatAre 26 = .ok (.ior, 1) := by decide +kernel
theorem dX6_bottlesThatAre_27 : decode cX6_bottlesThatAre 27 = .ok (.istore_n 2, 1) := by decide +kernel
theorem dX6_bottlesThatAre_28 : decode cX6_bottlesThatAre 28 = .ok (.iinc 3 1, 3) := by decide +kernel
theorem dX6_bottlesThatAre_31 : decode cX6_bottlesThatAre 31 = .ok (.goto (-27), 3) := by decide +kernel
theorem dX6_bottlesThatAre_34 : decode cX6_bottlesThatAre 34 = .ok (.iload_n 2, 1) := by decide +kernel
theorem dX6_bottlesThatAre_35 : decode cX6_bottlesThatAre 35 = .ok (.ireturn, 1) := by decide +kernel
theorem BX6_bottlesThatAre_0 {d bc bs : Nat} {h : aH} {n : Nat} {Q : aQ} {r0 : Option Nat} {x1 : Int} {l2 l3 : Option aV} (k : Rn d bc bs mX6_bottlesThatAre 4 [some (vR r0), some (vI x1), some (vI 0), some (vI 0)] [] h n Q) : Rn d (bc) (bs) mX6_bottlesThatAre 0 [some (vR r0), some (vI x1), l2, l3] [] h n Q := by
  refine Rn_iconst dX6_bottlesThatAre_0 rfl ?_
  refine Rn_istore_n dX6_bottlesThatAre_1 rfl (Nat.le_of_ble_eq_true rfl) rfl rfl ?_
  refine Rn_iconst dX6_bottlesThatAre_2 rfl ?_
  refine Rn_istore_n dX6_bottlesThatAre_3 rfl (Nat.le_of_ble_eq_true rfl) rfl rfl ?_
  exact k
theorem BX6_bottlesThatAre_4 {d bc bs : Nat} {h : aH} {n : Nat} {Q : aQ} {ar0 : Nat} {x1 x2 x3 v3 : Int} {f1 : List aV} (h2 : h ar0 = cO 6 f1) (g4 : f1[2]? = some (vI v3)) (kt : v3 ≤ x3 → Rn d bc bs mX6_bottlesThatAre 34 [some (vR (some ar0)), some (vI x1), some (vI x2), some (vI x3)] [] h n Q) (kf : x3 < v3 → Rn d bc bs mX6_bottlesThatAre 12 [some (vR (some ar0)), some (vI x1), some (vI x2), some (vI x3)] [] h n Q) : Rn d (bc) (bs) mX6_bottlesThatAre 4 [some (vR (some ar0)), some (vI x1), some (vI x2), some (vI x3)] [] h n Q := by
  refine Rn_iload_n dX6_bottlesThatAre_4 rfl rfl ?_
  refine Rn_aload_n dX6_bottlesThatAre_5 rfl rfl rfl ?_
  refine Rn_getfield (ci := 6) (k := 2) dX6_bottlesThatAre_6 rfl in_6 (Nat.le_of_ble_eq_true rfl) wd_205 rfl h2 g4 ?_
  refine Rn_icmpge (tgt := 34) dX6_bottlesThatAre_9 rfl ?_ ?_
  · exact kt
  · exact kf
theorem BX6_bottlesThatAre_12 {d bc bs : Nat} {h : aH} {n : Nat} {Q : aQ} {ar0 : Nat} {x1 x2 x3 : Int} {f1 : List aV} (h2 : h ar0 = cO 6 f1) (k : Rn d 0 0 mX6_get 0 [some (vR (some ar0)), some (vI x3), some (vI 4), none] [] h n (fun v h1 n1 => Rn (d + 1) bc bs mX6_bottlesThatAre 18 [some (vR (some ar0)), some (vI x1), some (vI x2), some (vI x3)] (v.toList ++ []) h1 n1 Q)) : Rn (d + 1) (bc) (bs) mX6_bottlesThatAre 12 [some (vR (some ar0)), some (vI x1), some (vI x2), some (vI x3)] [] h n Q := by
  refine Rn_aload_n dX6_bottlesThatAre_12 rfl rfl rfl ?_
  refine Rn_iload_n dX6_bottlesThatAre_13 rfl rfl ?_
  refine Rn_iconst dX6_bottlesThatAre_14 rfl ?_
  exact Rn_callV (ci := 6) (avs := [vI x3, vI 4]) (st := []) (bc1 := 0) (bs1 := 0) (bc2 := bc) (bs2 := bs) fx_X6_get dX6_bottlesThatAre_15 wd_839 wd_840 wd_841 rfl h2 rfl (Nat.le_of_ble_eq_true rfl) (Nat.le_of_ble_eq_true rfl) (by omega) (by omega) (ls1 := [some (vR (some ar0)), some (vI x3), some (vI 4), none]) rfl k
theorem BX6_bottlesThatAre_18 {d bc bs : Nat} {h : aH} {n : Nat} {Q : aQ} {r0 : Option Nat} {x1 x2 x3 s0 : Int} (kt : s0 ≠ x1 → Rn d bc bs mX6_bottlesThatAre 28 [some (vR r0), some (vI x1), some (vI x2), some (vI x3)] [] h n Q) (kf : s0 = x1 → Rn d bc bs mX6_bottlesThatAre 22 [some (vR r0), some (vI x1), some (vI x2), some (vI x3)] [] h n Q) : Rn d (bc) (bs) mX6_bottlesThatAre 18 [some (vR r0), some (vI x1), some (vI x2), some (vI x3)] [vI s0] h n Q := by
  refine Rn_iload_n dX6_bottlesThatAre_18 rfl rfl ?_
  refine Rn_icmpne (tgt := 28) dX6_bottlesThatAre_19 rfl ?_ ?_
  · exact kt
  · exact kf
theorem BX6_bottlesThatAre_22 {d bc bs : Nat} {h : aH} {n : Nat} {Q : aQ} {r0 : Option Nat} {x1 x2 x3 : Int} (b1 : -2147483648 ≤ x3 + 1 ∧ x3 + 1 < 2147483648) (k : Rn d bc bs mX6_bottlesThatAre 4 [some (vR r0), some (vI x1), some (vI (or32 x2 (shl32 1 x3))), some (vI (x3 + 1))] [] h n Q) : Rn d (bc) (bs) mX6_bottlesThatAre 22 [some (vR r0), some (vI x1), some (vI x2), some (vI x3)] [] h n Q := by
  refine Rn_iload_n dX6_bottlesThatAre_22 rfl rfl ?_
  refine Rn_iconst dX6_bottlesThatAre_23 rfl ?_
  refine Rn_iload_n dX6_bottlesThatAre_24 rfl rfl ?_
  refine Rn_ishl dX6_bottlesThatAre_25 ?_
  refine Rn_ior dX6_bottlesThatAre_26 ?_
  refine Rn_istore_n dX6_bottlesThatAre_27 rfl (Nat.le_of_ble_eq_true rfl) rfl rfl ?_
  refine Rn_iinc dX6_bottlesThatAre_28 rfl (Nat.le_of_ble_eq_true rfl) rfl rfl rfl ?_
  rw [w32_id b1.1 b1.2]
  refine Rn_goto (tgt := 4) dX6_bottlesThatAre_31 rfl ?_
  exact k
theorem BX6_bottlesThatAre_28 {d bc bs : Nat} {h : aH} {n : Nat} {Q : aQ} {r0 : Option Nat} {x1 x2 x3 : Int} (b1 : -2147483648 ≤ x3 + 1 ∧ x3 + 1 < 2147483648) (k : Rn d bc bs mX6_bottlesThatAre 4 [some (vR r0), some (vI x1), some (vI x2), some (vI (x3 + 1))] [] h n Q) : Rn d (bc) (bs) mX6_bottlesThatAre 28 [some (vR r0), some (vI x1), some (vI x2), some (vI x3)] [] h n Q := by
  refine Rn_iinc dX6_bottlesThatAre_28 rfl (Nat.le_of_ble_eq_true rfl) rfl rfl rfl ?_
  rw [w32_id b1.1 b1.2]
  refine Rn_goto (tgt := 4) dX6_bottlesThatAre_31 rfl ?_
  exact k
theorem BX6_bottlesThatAre_34 {d bc bs : Nat} {h : aH} {n : Nat} {Q : aQ} {r0 : Option Nat} {x1 x2 x3 : Int} (k : Q (some (vI x2)) h n) : Rn d (bc) (bs) mX6_bottlesThatAre 34 [some (vR r0), some (vI x1), some (vI x2), some (vI x3)] [] h n Q := by
  refine Rn_iload_n dX6_bottlesThatAre_34 rfl rfl ?_
  exact Rn_ireturn rfl dX6_bottlesThatAre_35 k
theorem dX7_init_0 : decode cX7_init 0 = .ok (.aload_n 0, 1) := by decide +kernel
theorem dX7_init_1 : decode cX7_init 1 = .ok (.invokespecial 3, 3) := by decide +kernel
theorem dX7_init_4 : decode cX7_init 4 = .ok (.aload_n 0, 1) := by decide +kernel
theorem dX7_init_5 : decode cX7_init 5 = .ok (.bipush 6, 2) := by decide +kernel
theorem dX7_init_7 : decode cX7_init 7 = .ok (.newarray .int, 2) := by decide +kernel
theorem dX7_init_9 : decode cX7_init 9 = .ok (.putfield 9, 3) := by decide +kernel
theorem dX7_init_12 : decode cX7_init 12 = .ok (.aload_n 0, 1) := by decide +kernel
theorem dX7_init_13 : decode cX7_init 13 = .ok (.bipush 6, 2) := by decide +kernel
theorem dX7_init_15 : decode cX7_init 15 = .ok (.newarray .int, 2) := by decide +kernel
theorem dX7_init_17 : decode cX7_init 17 = .ok (.putfield 15, 3) := by decide +kernel
theorem dX7_init_20 : decode cX7_init 20 = .ok (.aload_n 0, 1) := by decide +kernel
theorem dX7_init_21 : decode cX7_init 21 = .ok (.bipush 30, 2) := by decide +kernel
theorem dX7_init_23 : decode cX7_init 23 = .ok (.newarray .int, 2) := by decide +kernel
theorem dX7_init_25 : decode cX7_init 25 = .ok (.putfield 18, 3) := by decide +kernel
theorem dX7_init_28 : decode cX7_init 28 = .ok (.aload_n 0, 1) := by decide +kernel
theorem dX7_init_29 : decode cX7_init 29 = .ok (.iconst 0, 1) := by decide +kernel
theorem dX7_init_30 : decode cX7_init 30 = .ok (.putfield 21, 3) := by decide +kernel
theorem dX7_init_33 : decode cX7_init 33 = .ok (.iconst 0, 1) := by decide +kernel
theorem dX7_init_34 : decode cX7_init 34 = .ok (.istore_n 1, 1) := by decide +kernel
theorem dX7_init_35 : decode cX7_init 35 = .ok (.iload_n 1, 1) := by decide +kernel
theorem dX7_init_36 : decode cX7_init 36 = .ok (.bipush 10, 2) := by decide +kernel
theorem dX7_init_38 : decode cX7_init 38 = .ok (.if_icmp .ge 52, 3) := by decide +kernel
theorem dX7_init_41 : decode cX7_init 41 = .ok (.aload_n 0, 1) := by decide +kernel
theorem dX7_init_42 : decode cX7_init 42 = .ok (.getfield 18, 3) := by decide +kernel
theorem dX7_init_45 : decode cX7_init 45 = .ok (.iload_n 1, 1) := by decide +kernel
theorem dX7_init_46 : decode cX7_init 46 = .ok (.iload_n 1, 1) := by decide +kernel
theorem dX7_init_47 : decode cX7_init 47 = .ok (.iconst 1, 1) := by decide +kernel
theorem dX7_init_48 : decode cX7_init 48 = .ok (.iadd, 1) := by decide +kernel
theorem dX7_init_49 : decode cX7_init 49 = .ok (.bipush 10, 2) := by decide +kernel
theorem dX7_init_51 : decode cX7_init 51 = .ok (.irem, 1) := by decide +kernel
theorem dX7_init_52 : decode cX7_init 52 = .ok (.invokestatic 25, 3) := by decide +kernel
theorem dX7_init_55 : decode cX7_init 55 = .ok (.aload_n 0, 1) := by decide +kernel
theorem dX7_init_56 : decode cX7_init 56 = .ok (.getfield 18, 3) := by decide +kernel
theorem dX7_init_59 : decode cX7_init 59 = .ok (.bipush 10, 2) := by decide +kernel
theorem dX7_init_61 : decode cX7_init 61 = .ok (.iload_n 1, 1) := by decide +kernel
theorem dX7_init_62 : decode cX7_init 62 = .ok (.iadd, 1) := by decide +kernel
theorem dX7_init_63 : decode cX7_init 63 = .ok (.iload_n 1, 1) := by decide +kernel
theorem dX7_init_64 : decode cX7_init 64 = .ok (.iconst 3, 1) := by decide +kernel
theorem dX7_init_65 : decode cX7_init 65 = .ok (.iadd, 1) := by decide +kernel
theorem dX7_init_66 : decode cX7_init 66 = .ok (.bipush 10, 2) := by decide +kernel
theorem dX7_init_68 : decode cX7_init 68 = .ok (.irem, 1) := by decide +kernel
theorem dX7_init_69 : decode cX7_init 69 = .ok (.invokestatic 25, 3) := by decide +kernel
theorem dX7_init_72 : decode cX7_init 72 = .ok (.aload_n 0, 1) := by decide +kernel
theorem dX7_init_73 : decode cX7_init 73 = .ok (.getfield 18, 3) := by decide +kernel
theorem dX7_init_76 : decode cX7_init 76 = .ok (.bipush 20, 2) := by decide +kernel
theorem dX7_init_78 : decode cX7_init 78 = .ok (.iload_n 1, 1) := by decide +kernel
theorem dX7_init_79 : decode cX7_init 79 = .ok (.iadd, 1) := by decide +kernel
theorem dX7_init_80 : decode cX7_init 80 = .ok (.iload_n 1, 1) := by decide +kernel
theorem dX7_init_81 : decode cX7_init 81 = .ok (.invokestatic 25, 3) := by decide +kernel
theorem dX7_init_84 : decode cX7_init 84 = .ok (.iinc 1 1, 3) := by decide +kernel
theorem dX7_init_87 : decode cX7_init 87 = .ok (.goto (-52), 3) := by decide +kernel
theorem dX7_init_90 : decode cX7_init 90 = .ok (.return_, 1) := by decide +kernel
theorem BX7_init_0 {d bc bs : Nat} {h : aH} {n : Nat} {Q : aQ} {ar0 : Nat} {l1 : Option aV} (k : Rn (d + 1) bc bs mX7_init 9 [some (vR (some ar0)), l1] [vR (some n), vR (some ar0)] (up h n (cI (List.replicate 6 0))) (n + 1) Q) : Rn (d + 1) (bc + 1) (bs + 6) mX7_init 0 [some (vR (some ar0)), l1] [] h n Q := by
  refine Rn_aload_n dX7_init_0 rfl rfl rfl ?_
  refine Rn_objInit dX7_init_1 wd_162 wd_149 wd_150 (Nat.le_of_ble_eq_true rfl) ?_
  refine Rn_aload_n dX7_init_4 rfl rfl rfl ?_
  refine Rn_bipush dX7_init_5 rfl ?_
  refine Rn_newarrI (N := 6) (bc := bc) (bs := bs) (by omega) (by omega) wd_181 dX7_init_7 (by decide) ?_
  exact k
theorem BX7_init_9 {d bc bs : Nat} {h : aH} {n : Nat} {Q : aQ} {r0 q1 : Option Nat} {l1 : Option aV} {aq0 : Nat} {f1 : List aV} (h2 : h aq0 = cO 7 f1) (m3 : 0 < f1.length) (k : Rn d bc bs mX7_init 12 [some (vR r0), l1] [] (up h aq0 (cO 7 (f1.set 0 (vR q1)))) n Q) : Rn d (bc) (bs) mX7_init 9 [some (vR r0), l1] [vR q1, vR (some aq0)] h n Q := by
  refine Rn_putfield (ci := 7) (k := 0) dX7_init_9 rfl in_7 tyX7_ok nmX7 (Nat.le_of_ble_eq_true rfl) wd_166 rfl (Or.inr ⟨rfl, rfl⟩) trivial m3 h2 ?_
  exact k
theorem BX7_init_12 {d bc bs : Nat} {h : aH} {n : Nat} {Q : aQ} {r0 : Option Nat} {l1 : Option aV} (k : Rn d bc bs mX7_init 17 [some (vR r0), l1] [vR (some n), vR r0] (up h n (cI (List.replicate 6 0))) (n + 1) Q) : Rn d (bc + 1) (bs + 6) mX7_init 12 [some (vR r0), l1] [] h n Q := by
  refine Rn_aload_n dX7_init_12 rfl rfl rfl ?_
  refine Rn_bipush dX7_init_13 rfl ?_
  refine Rn_newarrI (N := 6) (bc := bc) (bs := bs) (by omega) (by omega) wd_181 dX7_init_15 (by decide) ?_
  exact k
theorem BX7_init_17 {d bc bs : Nat} {h : aH} {n : Nat} {Q : aQ} {r0 q1 : Option Nat} {l1 : Option aV} {aq0 : Nat} {f1 : List aV} (h2 : h aq0 = cO 7 f1) (m3 : 1 < f1.length) (k : Rn d bc bs mX7_init 20 [some (vR r0), l1] [] (up h aq0 (cO 7 (f1.set 1 (vR q1)))) n Q) : Rn d (bc) (bs) mX7_init 17 [some (vR r0), l1] [vR q1, vR (some aq0)] h n Q := by
  refine Rn_putfield (ci := 7) (k := 1) dX7_init_17 rfl in_7 tyX7_ok nmX7 (Nat.le_of_ble_eq_true rfl) wd_167 rfl (Or.inr ⟨rfl, rfl⟩) trivial m3 h2 ?_
  exact k
theorem BX7_init_20 {d bc bs : Nat} {h : aH} {n : Nat} {Q : aQ} {r0 : Option Nat} {l1 : Option aV} (k : Rn d bc bs mX7_init 25 [some (vR r0), l1] [vR (some n), vR r0] (up h n (cI (List.replicate 30 0))) (n + 1) Q) : Rn d (bc + 1) (bs + 30) mX7_init 20 [some (vR r0), l1] [] h n Q := by
  refine Rn_aload_n dX7_init_20 rfl rfl rfl ?_
  refine Rn_bipush dX7_init_21 rfl ?_
  refine Rn_newarrI (N := 30) (bc := bc) (bs := bs) (by omega) (by omega) wd_181 dX7_init_23 (by decide) ?_
  exact k
theorem BX7_init_25 {d bc bs : Nat} {h : aH} {n : Nat} {Q : aQ} {r0 q1 : Option Nat} {l1 : Option aV} {aq0 : Nat} {f1 : List aV} (h2 : h aq0 = cO 7 f1) (m3 : 2 < f1.length) (k : Rn d bc bs mX7_init 28 [some (vR r0), l1] [] (up h aq0 (cO 7 (f1.set 2 (vR q1)))) n Q) : Rn d (bc) (bs) mX7_init 25 [some (vR r0), l1] [vR q1, vR (some aq0)] h n Q := by
  refine Rn_putfield (ci := 7) (k := 2) dX7_init_25 rfl in_7 tyX7_ok nmX7 (Nat.le_of_ble_eq_true rfl) wd_168 rfl (Or.inr ⟨rfl, rfl⟩) trivial m3 h2 ?_
  exact k
theorem BX7_init_28 {d bc bs : Nat} {h : aH} {n : Nat} {Q : aQ} {ar0 : Nat} {l1 : Option aV} {f1 : List aV} (h2 : h ar0 = cO 7 f1) (m3 : 3 < f1.length) (k : Rn d bc bs mX7_init 33 [some (vR (some ar0)), l1] [] (up h ar0 (cO 7 (f1.set 3 (vI 0)))) n Q) : Rn d (bc) (bs) mX7_init 28 [some (vR (some ar0)), l1] [] h n Q := by
  refine Rn_aload_n dX7_init_28 rfl rfl rfl ?_
  refine Rn_iconst dX7_init_29 rfl ?_
  refine Rn_putfield (ci := 7) (k := 3) dX7_init_30 rfl in_7 tyX7_ok nmX7 (Nat.le_of_ble_eq_true rfl) wd_169 rfl (Or.inl rfl) trivial m3 h2 ?_
  exact k
theorem BX7_init_33 {d bc bs : Nat} {h : aH} {n : Nat} {Q : aQ} {r0 : Option Nat} {l1 : Option aV} (k : Rn d bc bs mX7_init 35 [some (vR r0), some (vI 0)] [] h n Q) : Rn d (bc) (bs) mX7_init 33 [some (vR r0), l1] [] h n Q := by
  refine Rn_iconst dX7_init_33 rfl ?_
  refine Rn_istore_n dX7_init_34 rfl (Nat.le_of_ble_eq_true rfl) rfl rfl ?_
  exact k
theorem BX7_init_35 {d bc bs : Nat} {h : aH} {n : Nat} {Q : aQ} {r0 : Option Nat} {x1 : Int} (kt : 10 ≤ x1 → Rn d bc bs mX7_init 90 [some (vR r0), some (vI x1)] [] h n Q) (kf : x1 < 10 → Rn d bc bs mX7_init 41 [some (vR r0), some (vI x1)] [] h n Q) : Rn d (bc) (bs) mX7_init 35 [some (vR r0), some (vI x1)] [] h n Q := by
  refine Rn_iload_n dX7_init_35 rfl rfl ?_
  refine Rn_bipush dX7_init_36 rfl ?_
  refine Rn_icmpge (tgt := 90) dX7_init_38 rfl ?_ ?_
  · exact kt
  · exact kf
theorem BX7_init_41 {d bc bs : Nat} {h : aH} {n : Nat} {Q : aQ} {ar0 : Nat} {x1 : Int} {f1 : List aV} {t3 : Option Nat} (h2 : h ar0 = cO 7 f1) (g4 : f1[2]? = some (vR t3)) (b5 : -2147483648 ≤ x1 + 1 ∧ x1 + 1 < 2147483648) (b6 : 0 ≤ (x1 + 1)) (k : Rn d 0 0 mX12_setCell 0 [some (vR t3), some (vI x1), some (vI ((x1 + 1) % 10))] [] h n (fun v h1 n1 => Rn (d + 1) bc bs mX7_init 55 [some (vR (some ar0)), some (vI x1)] (v.toList ++ []) h1 n1 Q)) : Rn (d + 1) (bc) (bs) mX7_init 41 [some (vR (some ar0)), some (vI x1)] [] h n Q := by
  refine Rn_aload_n dX7_init_41 rfl rfl rfl ?_
  refine Rn_getfield (ci := 7) (k := 2) dX7_init_42 rfl in_7 (Nat.le_of_ble_eq_true rfl) wd_168 rfl h2 g4 ?_
  refine Rn_iload_n dX7_init_45 rfl rfl ?_
  refine Rn_iload_n dX7_init_46 rfl rfl ?_
  refine Rn_iconst dX7_init_47 rfl ?_
  refine Rn_iadd dX7_init_48 ?_
  rw [w32_id b5.1 b5.2]
  refine Rn_bipush dX7_init_49 rfl ?_
  refine Rn_irem dX7_init_51 (by decide) ?_
  rw [Int.tmod_eq_emod_of_nonneg b6]
  exact Rn_callS (avs := [vR t3, vI x1, vI ((x1 + 1) % 10)]) (st := []) (bc1 := 0) (bs1 := 0) (bc2 := bc) (bs2 := bs) fx_X12_setCell dX7_init_52 (Or.inr ⟨"BottledPost", List.mem_of_getElem? (i := 1) rfl⟩) wd_164 rfl (Nat.le_of_ble_eq_true rfl) (Nat.le_of_ble_eq_true rfl) (by omega) (by omega) (ls1 := [some (vR t3), some (vI x1), some (vI ((x1 + 1) % 10))]) rfl k
theorem BX7_init_55 {d bc bs : Nat} {h : aH} {n : Nat} {Q : aQ} {ar0 : Nat} {x1 : Int} {f1 : List aV} {t3 : Option Nat} (h2 : h ar0 = cO 7 f1) (g4 : f1[2]? = some (vR t3)) (b5 : -2147483648 ≤ 10 + x1 ∧ 10 + x1 < 2147483648) (b6 : -2147483648 ≤ x1 + 3 ∧ x1 + 3 < 2147483648) (b7 : 0 ≤ (x1 + 3)) (k : Rn d 0 0 mX12_setCell 0 [some (vR t3), some (vI (10 + x1)), some (vI ((x1 + 3) % 10))] [] h n (fun v h1 n1 => Rn (d + 1) bc bs mX7_init 72 [some (vR (some ar0)), some (vI x1)] (v.toList ++ []) h1 n1 Q)) : Rn (d + 1) (bc) (bs) mX7_init 55 [some (vR (some ar0)), some (vI x1)] [] h n Q := by
  refine Rn_aload_n dX7_init_55 rfl rfl rfl ?_
  refine Rn_getfield (ci := 7) (k := 2) dX7_init_56 rfl in_7 (Nat.le_of_ble_eq_true rfl) wd_168 rfl h2 g4 ?_
  refine Rn_bipush dX7_init_59 rfl ?_
  refine Rn_iload_n dX7_init_61 rfl rfl ?_
  refine Rn_iadd dX7_init_62 ?_
  rw [w32_id b5.1 b5.2]
  refine Rn_iload_n dX7_init_63 rfl rfl ?_
  refine Rn_iconst dX7_init_64 rfl ?_
  refine Rn_iadd dX7_init_65 ?_
  rw [w32_id b6.1 b6.2]
  refine Rn_bipush dX7_init_66 rfl ?_
  refine Rn_irem dX7_init_68 (by decide) ?_
  rw [Int.tmod_eq_emod_of_nonneg b7]
  exact Rn_callS (avs := [vR t3, vI (10 + x1), vI ((x1 + 3) % 10)]) (st := []) (bc1 := 0) (bs1 := 0) (bc2 := bc) (bs2 := bs) fx_X12_setCell dX7_init_69 (Or.inr ⟨"BottledPost", List.mem_of_getElem? (i := 1) rfl⟩) wd_164 rfl (Nat.le_of_ble_eq_true rfl) (Nat.le_of_ble_eq_true rfl) (by omega) (by omega) (ls1 := [some (vR t3), some (vI (10 + x1)), some (vI ((x1 + 3) % 10))]) rfl k
theorem BX7_init_72 {d bc bs : Nat} {h : aH} {n : Nat} {Q : aQ} {ar0 : Nat} {x1 : Int} {f1 : List aV} {t3 : Option Nat} (h2 : h ar0 = cO 7 f1) (g4 : f1[2]? = some (vR t3)) (b5 : -2147483648 ≤ 20 + x1 ∧ 20 + x1 < 2147483648) (k : Rn d 0 0 mX12_setCell 0 [some (vR t3), some (vI (20 + x1)), some (vI x1)] [] h n (fun v h1 n1 => Rn (d + 1) bc bs mX7_init 84 [some (vR (some ar0)), some (vI x1)] (v.toList ++ []) h1 n1 Q)) : Rn (d + 1) (bc) (bs) mX7_init 72 [some (vR (some ar0)), some (vI x1)] [] h n Q := by
  refine Rn_aload_n dX7_init_72 rfl rfl rfl ?_
  refine Rn_getfield (ci := 7) (k := 2) dX7_init_73 rfl in_7 (Nat.le_of_ble_eq_true rfl) wd_168 rfl h2 g4 ?_
  refine Rn_bipush dX7_init_76 rfl ?_
  refine Rn_iload_n dX7_init_78 rfl rfl ?_
  refine Rn_iadd dX7_init_79 ?_
  rw [w32_id b5.1 b5.2]
  refine Rn_iload_n dX7_init_80 rfl rfl ?_
  exact Rn_callS (avs := [vR t3, vI (20 + x1), vI x1]) (st := []) (bc1 := 0) (bs1 := 0) (bc2 := bc) (bs2 := bs) fx_X12_setCell dX7_init_81 (Or.inr ⟨"BottledPost", List.mem_of_getElem? (i := 1) rfl⟩) wd_164 rfl (Nat.le_of_ble_eq_true rfl) (Nat.le_of_ble_eq_true rfl) (by omega) (by omega) (ls1 := [some (vR t3), some (vI (20 + x1)), some (vI x1)]) rfl k
theorem BX7_init_84 {d bc bs : Nat} {h : aH} {n : Nat} {Q : aQ} {r0 : Option Nat} {x1 : Int} (b1 : -2147483648 ≤ x1 + 1 ∧ x1 + 1 < 2147483648) (k : Rn d bc bs mX7_init 35 [some (vR r0), some (vI (x1 + 1))] [] h n Q) : Rn d (bc) (bs) mX7_init 84 [some (vR r0), some (vI x1)] [] h n Q := by
  refine Rn_iinc dX7_init_84 rfl (Nat.le_of_ble_eq_true rfl) rfl rfl rfl ?_
  rw [w32_id b1.1 b1.2]
  refine Rn_goto (tgt := 35) dX7_init_87 rfl ?_
  exact k
theorem BX7_init_90 {d bc bs : Nat} {h : aH} {n : Nat} {Q : aQ} {r0 : Option Nat} {x1 : Int} (k : Q none h n) : Rn d (bc) (bs) mX7_init 90 [some (vR r0), some (vI x1)] [] h n Q := by
  exact Rn_return rfl dX7_init_90 k
theorem dX7_copyFrom_0 : decode cX7_copyFrom 0 = .ok (.aload_n 1, 1) := by decide +kernel
theorem dX7_copyFrom_1 : decode cX7_copyFrom 1 = .ok (.getfield 9, 3) := by decide +kernel
theorem dX7_copyFrom_4 : decode cX7_copyFrom 4 = .ok (.aload_n 0, 1) := by decide +kernel
theorem dX7_copyFrom_5 : decode cX7_copyFrom 5 = .ok (.getfield 9, 3) := by decide +kernel
theorem dX7_copyFrom_8 : decode cX7_copyFrom 8 = .ok (.invokestatic 29, 3) := by decide +kernel
theorem dX7_copyFrom_11 : decode cX7_copyFrom 11 = .ok (.aload_n 1, 1) := by decide +kernel
theorem dX7_copyFrom_12 : decode cX7_copyFrom 12 = .ok (.getfield 15, 3) := by decide +kernel
theorem dX7_copyFrom_15 : decode cX7_copyFrom 15 = .ok (.aload_n 0, 1) := by decide +kernel
theorem dX7_copyFrom_16 : decode cX7_copyFrom 16 = .ok (.getfield 15, 3) := by decide +kernel
theorem dX7_copyFrom_19 : decode cX7_copyFrom 19 = .ok (.invokestatic 29, 3) := by decide +kernel
theorem dX7_copyFrom_22 : decode cX7_copyFrom 22 = .ok (.aload_n 1, 1) := by decide +kernel
theorem dX7_copyFrom_23 : decode cX7_copyFrom 23 = .ok (.getfield 18, 3) := by decide +kernel
theorem dX7_copyFrom_26 : decode cX7_copyFrom 26 = .ok (.aload_n 0, 1) := by decide +kernel
theorem dX7_copyFrom_27 : decode cX7_copyFrom 27 = .ok (.getfield 18, 3) := by decide +kernel
theorem dX7_copyFrom_30 : decode cX7_copyFrom 30 = .ok (.invokestatic 29, 3) := by decide +kernel
theorem dX7_copyFrom_33 : decode cX7_copyFrom 33 = .ok (.aload_n 0, 1) := by decide +kernel
theorem dX7_copyFrom_34 : decode cX7_copyFrom 34 = .ok (.aload_n 1, 1) := by decide +kernel
theorem dX7_copyFrom_35 : decode cX7_copyFrom 35 = .ok (.getfield 21, 3) := by decide +kernel
theorem dX7_copyFrom_38 : decode cX7_copyFrom 38 = .ok (.putfield 21, 3) := by decide +kernel
theorem dX7_copyFrom_41 : decode cX7_copyFrom 41 = .ok (.return_, 1) := by decide +kernel
theorem BX7_copyFrom_0 {d bc bs : Nat} {h : aH} {n : Nat} {Q : aQ} {ar0 ar1 : Nat} {f1 f5 : List aV} {t3 t7 : Option Nat} (h2 : h ar1 = cO 7 f1) (g4 : f1[0]? = some (vR t3)) (h6 : h ar0 = cO 7 f5) (g8 : f5[0]? = some (vR t7)) (k : Rn d 0 0 mX12_copyRow 0 [some (vR t3), some (vR t7)] [] h n (fun v h1 n1 => Rn (d + 1) bc bs mX7_copyFrom 11 [some (vR (some ar0)), some (vR (some ar1))] (v.toList ++ []) h1 n1 Q)) : Rn (d + 1) (bc) (bs) mX7_copyFrom 0 [some (vR (some ar0)), some (vR (some ar1))] [] h n Q := by
  refine Rn_aload_n dX7_copyFrom_0 rfl rfl rfl ?_
  refine Rn_getfield (ci := 7) (k := 0) dX7_copyFrom_1 rfl in_7 (Nat.le_of_ble_eq_true rfl) wd_166 rfl h2 g4 ?_
  refine Rn_aload_n dX7_copyFrom_4 rfl rfl rfl ?_
  refine Rn_getfield (ci := 7) (k := 0) dX7_copyFrom_5 rfl in_7 (Nat.le_of_ble_eq_true rfl) wd_166 rfl h6 g8 ?_
  exact Rn_callS (avs := [vR t3, vR t7]) (st := []) (bc1 := 0) (bs1 := 0) (bc2 := bc) (bs2 := bs) fx_X12_copyRow dX7_copyFrom_8 (Or.inr ⟨"BottledPost", List.mem_of_getElem? (i := 30) rfl⟩) wd_802 rfl (Nat.le_of_ble_eq_true rfl) (Nat.le_of_ble_eq_true rfl) (by omega) (by omega) (ls1 := [some (vR t3), some (vR t7)]) rfl k
theorem BX7_copyFrom_11 {d bc bs : Nat} {h : aH} {n : Nat} {Q : aQ} {ar0 ar1 : Nat} {f1 f5 : List aV} {t3 t7 : Option Nat} (h2 : h ar1 = cO 7 f1) (g4 : f1[1]? = some (vR t3)) (h6 : h ar0 = cO 7 f5) (g8 : f5[1]? = some (vR t7)) (k : Rn d 0 0 mX12_copyRow 0 [some (vR t3), some (vR t7)] [] h n (fun v h1 n1 => Rn (d + 1) bc bs mX7_copyFrom 22 [some (vR (some ar0)), some (vR (some ar1))] (v.toList ++ []) h1 n1 Q)) : Rn (d + 1) (bc) (bs) mX7_copyFrom 11 [some (vR (some ar0)), some (vR (some ar1))] [] h n Q := by
  refine Rn_aload_n dX7_copyFrom_11 rfl rfl rfl ?_
  refine Rn_getfield (ci := 7) (k := 1) dX7_copyFrom_12 rfl in_7 (Nat.le_of_ble_eq_true rfl) wd_167 rfl h2 g4 ?_
  refine Rn_aload_n dX7_copyFrom_15 rfl rfl rfl ?_
  refine Rn_getfield (ci := 7) (k := 1) dX7_copyFrom_16 rfl in_7 (Nat.le_of_ble_eq_true rfl) wd_167 rfl h6 g8 ?_
  exact Rn_callS (avs := [vR t3, vR t7]) (st := []) (bc1 := 0) (bs1 := 0) (bc2 := bc) (bs2 := bs) fx_X12_copyRow dX7_copyFrom_19 (Or.inr ⟨"BottledPost", List.mem_of_getElem? (i := 30) rfl⟩) wd_802 rfl (Nat.le_of_ble_eq_true rfl) (Nat.le_of_ble_eq_true rfl) (by omega) (by omega) (ls1 := [some (vR t3), some (vR t7)]) rfl k
theorem BX7_copyFrom_22 {d bc bs : Nat} {h : aH} {n : Nat} {Q : aQ} {ar0 ar1 : Nat} {f1 f5 : List aV} {t3 t7 : Option Nat} (h2 : h ar1 = cO 7 f1) (g4 : f1[2]? = some (vR t3)) (h6 : h ar0 = cO 7 f5) (g8 : f5[2]? = some (vR t7)) (k : Rn d 0 0 mX12_copyRow 0 [some (vR t3), some (vR t7)] [] h n (fun v h1 n1 => Rn (d + 1) bc bs mX7_copyFrom 33 [some (vR (some ar0)), some (vR (some ar1))] (v.toList ++ []) h1 n1 Q)) : Rn (d + 1) (bc) (bs) mX7_copyFrom 22 [some (vR (some ar0)), some (vR (some ar1))] [] h n Q := by
  refine Rn_aload_n dX7_copyFrom_22 rfl rfl rfl ?_
  refine Rn_getfield (ci := 7) (k := 2) dX7_copyFrom_23 rfl in_7 (Nat.le_of_ble_eq_true rfl) wd_168 rfl h2 g4 ?_
  refine Rn_aload_n dX7_copyFrom_26 rfl rfl rfl ?_
  refine Rn_getfield (ci := 7) (k := 2) dX7_copyFrom_27 rfl in_7 (Nat.le_of_ble_eq_true rfl) wd_168 rfl h6 g8 ?_
  exact Rn_callS (avs := [vR t3, vR t7]) (st := []) (bc1 := 0) (bs1 := 0) (bc2 := bc) (bs2 := bs) fx_X12_copyRow dX7_copyFrom_30 (Or.inr ⟨"BottledPost", List.mem_of_getElem? (i := 30) rfl⟩) wd_802 rfl (Nat.le_of_ble_eq_true rfl) (Nat.le_of_ble_eq_true rfl) (by omega) (by omega) (ls1 := [some (vR t3), some (vR t7)]) rfl k
theorem BX7_copyFrom_33 {d bc bs : Nat} {h : aH} {n : Nat} {Q : aQ} {ar0 ar1 : Nat} {f1 f5 : List aV} {v3 : Int} (h2 : h ar1 = cO 7 f1) (g4 : f1[3]? = some (vI v3)) (h6 : h ar0 = cO 7 f5) (m7 : 3 < f5.length) (k : Rn d bc bs mX7_copyFrom 41 [some (vR (some ar0)), some (vR (some ar1))] [] (up h ar0 (cO 7 (f5.set 3 (vI v3)))) n Q) : Rn d (bc) (bs) mX7_copyFrom 33 [some (vR (some ar0)), some (vR (some ar1))] [] h n Q := by
  refine Rn_aload_n dX7_copyFrom_33 rfl rfl rfl ?_
  refine Rn_aload_n dX7_copyFrom_34 rfl rfl rfl ?_
  refine Rn_getfield (ci := 7) (k := 3) dX7_copyFrom_35 rfl in_7 (Nat.le_of_ble_eq_true rfl) wd_169 rfl h2 g4 ?_
  refine Rn_putfield (ci := 7) (k := 3) dX7_copyFrom_38 rfl in_7 tyX7_ok nmX7 (Nat.le_of_ble_eq_true rfl) wd_169 rfl (Or.inl rfl) trivial m7 h6 ?_
  exact k
theorem BX7_copyFrom_41 {d bc bs : Nat} {h : aH} {n : Nat} {Q : aQ} {r0 r1 : Option Nat} (k : Q none h n) : Rn d (bc) (bs) mX7_copyFrom 41 [some (vR r0), some (vR r1)] [] h n Q := by
  exact Rn_return rfl dX7_copyFrom_41 k
theorem dX7_addPerson_0 : decode cX7_addPerson 0 = .ok (.iload_n 1, 1) := by decide +kernel
theorem dX7_addPerson_1 : decode cX7_addPerson 1 = .ok (.invokestatic 33, 3) := by decide +kernel
theorem dX7_addPerson_4 : decode cX7_addPerson 4 = .ok (.ifCond .eq 22, 3) := by decide +kernel
theorem dX7_addPerson_7 : decode cX7_addPerson 7 = .ok (.iload_n 2, 1) := by decide +kernel
theorem dX7_addPerson_8 : decode cX7_addPerson 8 = .ok (.iconst 0, 1) := by decide +kernel
theorem dX7_addPerson_9 : decode cX7_addPerson 9 = .ok (.bipush 9, 2) := by decide +kernel
theorem dX7_addPerson_11 : decode cX7_addPerson 11 = .ok (.invokestatic 37, 3) := by decide +kernel
theorem dX7_addPerson_14 : decode cX7_addPerson 14 = .ok (.ifCond .eq 12, 3) := by decide +kernel
theorem dX7_addPerson_17 : decode cX7_addPerson 17 = .ok (.aload_n 0, 1) := by decide +kernel
theorem dX7_addPerson_18 : decode cX7_addPerson 18 = .ok (.getfield 21, 3) := by decide +kernel
theorem dX7_addPerson_21 : decode cX7_addPerson 21 = .ok (.bipush 6, 2) := by decide +kernel
theorem dX7_addPerson_23 : decode cX7_addPerson 23 = .ok (.if_icmp .lt 5, 3) := by decide +kernel
theorem dX7_addPerson_26 : decode cX7_addPerson 26 = .ok (.iconst (-1), 1) := by decide +kernel
theorem dX7_addPerson_27 : decode cX7_addPerson 27 = .ok (.ireturn, 1) := by decide +kernel
theorem dX7_addPerson_28 : decode cX7_addPerson 28 = .ok (.aload_n 0, 1) := by decide +kernel
theorem dX7_addPerson_29 : decode cX7_addPerson 29 = .ok (.getfield 9, 3) := by decide +kernel
theorem dX7_addPerson_32 : decode cX7_addPerson 32 = .ok (.aload_n 0, 1) := by decide +kernel
theorem dX7_addPerson_33 : decode cX7_addPerson 33 = .ok (.getfield 21, 3) := by decide +kernel
theorem dX7_addPerson_36 : decode cX7_addPerson 36 = .ok (.iload_n 1, 1) := by decide +kernel
theorem dX7_addPerson_37 : decode cX7_addPerson 37 = .ok (.invokestatic 25, 3) := by decide +kernel
theorem dX7_addPerson_40 : decode cX7_addPerson 40 = .ok (.aload_n 0, 1) := by decide +kernel
theorem dX7_addPerson_41 : decode cX7_addPerson 41 = .ok (.getfield 15, 3) := by decide +kernel
theorem dX7_addPerson_44 : decode cX7_addPerson 44 = .ok (.aload_n 0, 1) := by decide +kernel
theorem dX7_addPerson_45 : decode cX7_addPerson 45 = .ok (.getfield 21, 3) := by decide +kernel
theorem dX7_addPerson_48 : decode cX7_addPerson 48 = .ok (.iload_n 2, 1) := by decide +kernel
theorem dX7_addPerson_49 : decode cX7_addPerson 49 = .ok (.invokestatic 25, 3) := by decide +kernel
theorem dX7_addPerson_52 : decode cX7_addPerson 52 = .ok (.aload_n 0, 1) := by decide +kernel
theorem dX7_addPerson_53 : decode cX7_addPerson 53 = .ok (.dup, 1) := by decide +kernel
theorem dX7_addPerson_54 : decode cX7_addPerson 54 = .ok (.getfield 21, 3) := by decide +kernel
theorem dX7_addPerson_57 : decode cX7_addPerson 57 = .ok (.iconst 1, 1) := by decide +kernel
theorem dX7_addPerson_58 : decode cX7_addPerson 58 = .ok (.iadd, 1) := by decide +kernel
theorem dX7_addPerson_59 : decode cX7_addPerson 59 = .ok (.putfield 21, 3) := by decide +kernel
theorem dX7_addPerson_62 : decode cX7_addPerson 62 = .ok (.aload_n 0, 1) := by decide +kernel
theorem dX7_addPerson_63 : decode cX7_addPerson 63 = .ok (.getfield 21, 3) := by decide +kernel
theorem dX7_addPerson_66 : decode cX7_addPerson 66 = .ok (.iconst 1, 1) := by decide +kernel
theorem dX7_addPerson_67 : decode cX7_addPerson 67 = .ok (.isub, 1) := by decide +kernel
theorem dX7_addPerson_68 : decode cX7_addPerson 68 = .ok (.ireturn, 1) := by decide +kernel
theorem BX7_addPerson_0 {d bc bs : Nat} {h : aH} {n : Nat} {Q : aQ} {r0 : Option Nat} {x1 x2 : Int} (k : Rn d 0 0 mX12_isPlace 0 [some (vI x1)] [] h n (fun v h1 n1 => Rn (d + 1) bc bs mX7_addPerson 4 [some (vR r0), some (vI x1), some (vI x2)] (v.toList ++ []) h1 n1 Q)) : Rn (d + 1) (bc) (bs) mX7_addPerson 0 [some (vR r0), some (vI x1), some (vI x2)] [] h n Q := by
  refine Rn_iload_n dX7_addPerson_0 rfl rfl ?_
  exact Rn_callS (avs := [vI x1]) (st := []) (bc1 := 0) (bs1 := 0) (bc2 := bc) (bs2 := bs) fx_X12_isPlace dX7_addPerson_1 (Or.inr ⟨"BottledPost", List.mem_of_getElem? (i := 12) rfl⟩) wd_500 rfl (Nat.le_of_ble_eq_true rfl) (Nat.le_of_ble_eq_true rfl) (by omega) (by omega) (ls1 := [some (vI x1)]) rfl k
theorem BX7_addPerson_4 {d bc bs : Nat} {h : aH} {n : Nat} {Q : aQ} {r0 : Option Nat} {x1 x2 s0 : Int} (kt : s0 = 0 → Rn d bc bs mX7_addPerson 26 [some (vR r0), some (vI x1), some (vI x2)] [] h n Q) (kf : s0 ≠ 0 → Rn d bc bs mX7_addPerson 7 [some (vR r0), some (vI x1), some (vI x2)] [] h n Q) : Rn d (bc) (bs) mX7_addPerson 4 [some (vR r0), some (vI x1), some (vI x2)] [vI s0] h n Q := by
  refine Rn_ifeq (tgt := 26) dX7_addPerson_4 rfl ?_ ?_
  · exact kt
  · exact kf
theorem BX7_addPerson_7 {d bc bs : Nat} {h : aH} {n : Nat} {Q : aQ} {r0 : Option Nat} {x1 x2 : Int} (k : Rn d 0 0 mX12_within 0 [some (vI x2), some (vI 0), some (vI 9)] [] h n (fun v h1 n1 => Rn (d + 1) bc bs mX7_addPerson 14 [some (vR r0), some (vI x1), some (vI x2)] (v.toList ++ []) h1 n1 Q)) : Rn (d + 1) (bc) (bs) mX7_addPerson 7 [some (vR r0), some (vI x1), some (vI x2)] [] h n Q := by
  refine Rn_iload_n dX7_addPerson_7 rfl rfl ?_
  refine Rn_iconst dX7_addPerson_8 rfl ?_
  refine Rn_bipush dX7_addPerson_9 rfl ?_
  exact Rn_callS (avs := [vI x2, vI 0, vI 9]) (st := []) (bc1 := 0) (bs1 := 0) (bc2 := bc) (bs2 := bs) fx_X12_within dX7_addPerson_11 (Or.inr ⟨"BottledPost", List.mem_of_getElem? (i := 13) rfl⟩) wd_503 rfl (Nat.le_of_ble_eq_true rfl) (Nat.le_of_ble_eq_true rfl) (by omega) (by omega) (ls1 := [some (vI x2), some (vI 0), some (vI 9)]) rfl k
theorem BX7_addPerson_14 {d bc bs : Nat} {h : aH} {n : Nat} {Q : aQ} {r0 : Option Nat} {x1 x2 s0 : Int} (kt : s0 = 0 → Rn d bc bs mX7_addPerson 26 [some (vR r0), some (vI x1), some (vI x2)] [] h n Q) (kf : s0 ≠ 0 → Rn d bc bs mX7_addPerson 17 [some (vR r0), some (vI x1), some (vI x2)] [] h n Q) : Rn d (bc) (bs) mX7_addPerson 14 [some (vR r0), some (vI x1), some (vI x2)] [vI s0] h n Q := by
  refine Rn_ifeq (tgt := 26) dX7_addPerson_14 rfl ?_ ?_
  · exact kt
  · exact kf
theorem BX7_addPerson_17 {d bc bs : Nat} {h : aH} {n : Nat} {Q : aQ} {ar0 : Nat} {x1 x2 v3 : Int} {f1 : List aV} (h2 : h ar0 = cO 7 f1) (g4 : f1[3]? = some (vI v3)) (kt : v3 < 6 → Rn d bc bs mX7_addPerson 28 [some (vR (some ar0)), some (vI x1), some (vI x2)] [] h n Q) (kf : 6 ≤ v3 → Rn d bc bs mX7_addPerson 26 [some (vR (some ar0)), some (vI x1), some (vI x2)] [] h n Q) : Rn d (bc) (bs) mX7_addPerson 17 [some (vR (some ar0)), some (vI x1), some (vI x2)] [] h n Q := by
  refine Rn_aload_n dX7_addPerson_17 rfl rfl rfl ?_
  refine Rn_getfield (ci := 7) (k := 3) dX7_addPerson_18 rfl in_7 (Nat.le_of_ble_eq_true rfl) wd_169 rfl h2 g4 ?_
  refine Rn_bipush dX7_addPerson_21 rfl ?_
  refine Rn_icmplt (tgt := 28) dX7_addPerson_23 rfl ?_ ?_
  · exact kt
  · exact kf
theorem BX7_addPerson_26 {d bc bs : Nat} {h : aH} {n : Nat} {Q : aQ} {r0 : Option Nat} {x1 x2 : Int} (k : Q (some (vI (-1))) h n) : Rn d (bc) (bs) mX7_addPerson 26 [some (vR r0), some (vI x1), some (vI x2)] [] h n Q := by
  refine Rn_iconst dX7_addPerson_26 rfl ?_
  exact Rn_ireturn rfl dX7_addPerson_27 k
theorem BX7_addPerson_28 {d bc bs : Nat} {h : aH} {n : Nat} {Q : aQ} {ar0 : Nat} {x1 x2 v5 : Int} {f1 : List aV} {t3 : Option Nat} (h2 : h ar0 = cO 7 f1) (g4 : f1[0]? = some (vR t3)) (g6 : f1[3]? = some (vI v5)) (k : Rn d 0 0 mX12_setCell 0 [some (vR t3), some (vI v5), some (vI x1)] [] h n (fun v h1 n1 => Rn (d + 1) bc bs mX7_addPerson 40 [some (vR (some ar0)), some (vI x1), some (vI x2)] (v.toList ++ []) h1 n1 Q)) : Rn (d + 1) (bc) (bs) mX7_addPerson 28 [some (vR (some ar0)), some (vI x1), some (vI x2)] [] h n Q := by
  refine Rn_aload_n dX7_addPerson_28 rfl rfl rfl ?_
  refine Rn_getfield (ci := 7) (k := 0) dX7_addPerson_29 rfl in_7 (Nat.le_of_ble_eq_true rfl) wd_166 rfl h2 g4 ?_
  refine Rn_aload_n dX7_addPerson_32 rfl rfl rfl ?_
  refine Rn_getfield (ci := 7) (k := 3) dX7_addPerson_33 rfl in_7 (Nat.le_of_ble_eq_true rfl) wd_169 rfl h2 g6 ?_
  refine Rn_iload_n dX7_addPerson_36 rfl rfl ?_
  exact Rn_callS (avs := [vR t3, vI v5, vI x1]) (st := []) (bc1 := 0) (bs1 := 0) (bc2 := bc) (bs2 := bs) fx_X12_setCell dX7_addPerson_37 (Or.inr ⟨"BottledPost", List.mem_of_getElem? (i := 1) rfl⟩) wd_164 rfl (Nat.le_of_ble_eq_true rfl) (Nat.le_of_ble_eq_true rfl) (by omega) (by omega) (ls1 := [some (vR t3), some (vI v5), some (vI x1)]) rfl k
theorem BX7_addPerson_40 {d bc bs : Nat} {h : aH} {n : Nat} {Q : aQ} {ar0 : Nat} {x1 x2 v5 : Int} {f1 : List aV} {t3 : Option Nat} (h2 : h ar0 = cO 7 f1) (g4 : f1[1]? = some (vR t3)) (g6 : f1[3]? = some (vI v5)) (k : Rn d 0 0 mX12_setCell 0 [some (vR t3), some (vI v5), some (vI x2)] [] h n (fun v h1 n1 => Rn (d + 1) bc bs mX7_addPerson 52 [some (vR (some ar0)), some (vI x1), some (vI x2)] (v.toList ++ []) h1 n1 Q)) : Rn (d + 1) (bc) (bs) mX7_addPerson 40 [some (vR (some ar0)), some (vI x1), some (vI x2)] [] h n Q := by
  refine Rn_aload_n dX7_addPerson_40 rfl rfl rfl ?_
  refine Rn_getfield (ci := 7) (k := 1) dX7_addPerson_41 rfl in_7 (Nat.le_of_ble_eq_true rfl) wd_167 rfl h2 g4 ?_
  refine Rn_aload_n dX7_addPerson_44 rfl rfl rfl ?_
  refine Rn_getfield (ci := 7) (k := 3) dX7_addPerson_45 rfl in_7 (Nat.le_of_ble_eq_true rfl) wd_169 rfl h2 g6 ?_
  refine Rn_iload_n dX7_addPerson_48 rfl rfl ?_
  exact Rn_callS (avs := [vR t3, vI v5, vI x2]) (st := []) (bc1 := 0) (bs1 := 0) (bc2 := bc) (bs2 := bs) fx_X12_setCell dX7_addPerson_49 (Or.inr ⟨"BottledPost", List.mem_of_getElem? (i := 1) rfl⟩) wd_164 rfl (Nat.le_of_ble_eq_true rfl) (Nat.le_of_ble_eq_true rfl) (by omega) (by omega) (ls1 := [some (vR t3), some (vI v5), some (vI x2)]) rfl k
theorem BX7_addPerson_52 {d bc bs : Nat} {h : aH} {n : Nat} {Q : aQ} {ar0 : Nat} {x1 x2 v3 : Int} {f1 : List aV} (h2 : h ar0 = cO 7 f1) (g4 : f1[3]? = some (vI v3)) (b5 : -2147483648 ≤ v3 + 1 ∧ v3 + 1 < 2147483648) (m6 : 3 < f1.length) (k : Rn d bc bs mX7_addPerson 62 [some (vR (some ar0)), some (vI x1), some (vI x2)] [] (up h ar0 (cO 7 (f1.set 3 (vI (v3 + 1))))) n Q) : Rn d (bc) (bs) mX7_addPerson 52 [some (vR (some ar0)), some (vI x1), some (vI x2)] [] h n Q := by
  refine Rn_aload_n dX7_addPerson_52 rfl rfl rfl ?_
  refine Rn_dup dX7_addPerson_53 rfl ?_
  refine Rn_getfield (ci := 7) (k := 3) dX7_addPerson_54 rfl in_7 (Nat.le_of_ble_eq_true rfl) wd_169 rfl h2 g4 ?_
  refine Rn_iconst dX7_addPerson_57 rfl ?_
  refine Rn_iadd dX7_addPerson_58 ?_
  rw [w32_id b5.1 b5.2]
  refine Rn_putfield (ci := 7) (k := 3) dX7_addPerson_59 rfl in_7 tyX7_ok nmX7 (Nat.le_of_ble_eq_true rfl) wd_169 rfl (Or.inl rfl) trivial m6 h2 ?_
  exact k
theorem BX7_addPerson_62 {d bc bs : Nat} {h : aH} {n : Nat} {Q : aQ} {ar0 : Nat} {x1 x2 v3 : Int} {f1 : List aV} (h2 : h ar0 = cO 7 f1) (g4 : f1[3]? = some (vI v3)) (b5 : -2147483648 ≤ v3 - 1 ∧ v3 - 1 < 2147483648) (k : Q (some (vI (v3 - 1))) h n) : Rn d (bc) (bs) mX7_addPerson 62 [some (vR (some ar0)), some (vI x1), some (vI x2)] [] h n Q := by
  refine Rn_aload_n dX7_addPerson_62 rfl rfl rfl ?_
  refine Rn_getfield (ci := 7) (k := 3) dX7_addPerson_63 rfl in_7 (Nat.le_of_ble_eq_true rfl) wd_169 rfl h2 g4 ?_
  refine Rn_iconst dX7_addPerson_66 rfl ?_
  refine Rn_isub dX7_addPerson_67 ?_
  rw [w32_id b5.1 b5.2]
  exact Rn_ireturn rfl dX7_addPerson_68 k
theorem dX7_tellCurrent_0 : decode cX7_tellCurrent 0 = .ok (.iload_n 1, 1) := by decide +kernel
theorem dX7_tellCurrent_1 : decode cX7_tellCurrent 1 = .ok (.iconst 0, 1) := by decide +kernel
theorem dX7_tellCurrent_2 : decode cX7_tellCurrent 2 = .ok (.iconst 2, 1) := by decide +kernel
theorem dX7_tellCurrent_3 : decode cX7_tellCurrent 3 = .ok (.invokestatic 37, 3) := by decide +kernel
theorem dX7_tellCurrent_6 : decode cX7_tellCurrent 6 = .ok (.ifCond .eq 17, 3) := by decide +kernel
theorem dX7_tellCurrent_9 : decode cX7_tellCurrent 9 = .ok (.iload_n 2, 1) := by decide +kernel
theorem dX7_tellCurrent_10 : decode cX7_tellCurrent 10 = .ok (.invokestatic 33, 3) := by decide +kernel
theorem dX7_tellCurrent_13 : decode cX7_tellCurrent 13 = .ok (.ifCond .eq 10, 3) := by decide +kernel
theorem dX7_tellCurrent_16 : decode cX7_tellCurrent 16 = .ok (.iload_n 3, 1) := by decide +kernel
theorem dX7_tellCurrent_17 : decode cX7_tellCurrent 17 = .ok (.invokestatic 33, 3) := by decide +kernel
theorem dX7_tellCurrent_20 : decode cX7_tellCurrent 20 = .ok (.ifCond .ne 5, 3) := by decide +kernel
theorem dX7_tellCurrent_23 : decode cX7_tellCurrent 23 = .ok (.iconst 0, 1) := by decide +kernel
theorem dX7_tellCurrent_24 : decode cX7_tellCurrent 24 = .ok (.ireturn, 1) := by decide +kernel
theorem dX7_tellCurrent_25 : decode cX7_tellCurrent 25 = .ok (.aload_n 0, 1) := by decide +kernel
theorem dX7_tellCurrent_26 : decode cX7_tellCurrent 26 = .ok (.getfield 18, 3) := by decide +kernel
theorem dX7_tellCurrent_29 : decode cX7_tellCurrent 29 = .ok (.iload_n 1, 1) := by decide +kernel
theorem dX7_tellCurrent_30 : decode cX7_tellCurrent 30 = .ok (.bipush 10, 2) := by decide +kernel
theorem dX7_tellCurrent_32 : decode cX7_tellCurrent 32 = .ok (.imul, 1) := by decide +kernel
theorem dX7_tellCurrent_33 : decode cX7_tellCurrent 33 = .ok (.iload_n 2, 1) := by decide +kernel
theorem dX7_tellCurrent_34 : decode cX7_tellCurrent 34 = .ok (.iadd, 1) := by decide +kernel
theorem dX7_tellCurrent_35 : decode cX7_tellCurrent 35 = .ok (.iload_n 3, 1) := by decide +kernel
theorem dX7_tellCurrent_36 : decode cX7_tellCurrent 36 = .ok (.invokestatic 25, 3) := by decide +kernel
theorem dX7_tellCurrent_39 : decode cX7_tellCurrent 39 = .ok (.iconst 1, 1) := by decide +kernel
theorem dX7_tellCurrent_40 : decode cX7_tellCurrent 40 = .ok (.ireturn, 1) := by decide +kernel
theorem BX7_tellCurrent_0 {d bc bs : Nat} {h : aH} {n : Nat} {Q : aQ} {r0 : Option Nat} {x1 x2 x3 : Int} (k : Rn d 0 0 mX12_within 0 [some (vI x1), some (vI 0), some (vI 2)] [] h n (fun v h1 n1 => Rn (d + 1) bc bs mX7_tellCurrent 6 [some (vR r0), some (vI x1), some (vI x2), some (vI x3)] (v.toList ++ []) h1 n1 Q)) : Rn (d + 1) (bc) (bs) mX7_tellCurrent 0 [some (vR r0), some (vI x1), some (vI x2), some (vI x3)] [] h n Q := by
  refine Rn_iload_n dX7_tellCurrent_0 rfl rfl ?_
  refine Rn_iconst dX7_tellCurrent_1 rfl ?_
  refine Rn_iconst dX7_tellCurrent_2 rfl ?_
  exact Rn_callS (avs := [vI x1, vI 0, vI 2]) (st := []) (bc1 := 0) (bs1 := 0) (bc2 := bc) (bs2 := bs) fx_X12_within dX7_tellCurrent_3 (Or.inr ⟨"BottledPost", List.mem_of_getElem? (i := 13) rfl⟩) wd_503 rfl (Nat.le_of_ble_eq_true rfl) (Nat.le_of_ble_eq_true rfl) (by omega) (by omega) (ls1 := [some (vI x1), some (vI 0), some (vI 2)]) rfl k
theorem BX7_tellCurrent_6 {d bc bs : Nat} {h : aH} {n : Nat} {Q : aQ} {r0 : Option Nat} {x1 x2 x3 s0 : Int} (kt : s0 = 0 → Rn d bc bs mX7_tellCurrent 23 [some (vR r0), some (vI x1), some (vI x2), some (vI x3)] [] h n Q) (kf : s0 ≠ 0 → Rn d bc bs mX7_tellCurrent 9 [some (vR r0), some (vI x1), some (vI x2), some (vI x3)] [] h n Q) : Rn d (bc) (bs) mX7_tellCurrent 6 [some (vR r0), some (vI x1), some (vI x2), some (vI x3)] [vI s0] h n Q := by
  refine Rn_ifeq (tgt := 23) dX7_tellCurrent_6 rfl ?_ ?_
  · exact kt
  · exact kf
theorem BX7_tellCurrent_9 {d bc bs : Nat} {h : aH} {n : Nat} {Q : aQ} {r0 : Option Nat} {x1 x2 x3 : Int} (k : Rn d 0 0 mX12_isPlace 0 [some (vI x2)] [] h n (fun v h1 n1 => Rn (d + 1) bc bs mX7_tellCurrent 13 [some (vR r0), some (vI x1), some (vI x2), some (vI x3)] (v.toList ++ []) h1 n1 Q)) : Rn (d + 1) (bc) (bs) mX7_tellCurrent 9 [some (vR r0), some (vI x1), some (vI x2), some (vI x3)] [] h n Q := by
  refine Rn_iload_n dX7_tellCurrent_9 rfl rfl ?_
  exact Rn_callS (avs := [vI x2]) (st := []) (bc1 := 0) (bs1 := 0) (bc2 := bc) (bs2 := bs) fx_X12_isPlace dX7_tellCurrent_10 (Or.inr ⟨"BottledPost", List.mem_of_getElem? (i := 12) rfl⟩) wd_500 rfl (Nat.le_of_ble_eq_true rfl) (Nat.le_of_ble_eq_true rfl) (by omega) (by omega) (ls1 := [some (vI x2)]) rfl k
theorem BX7_tellCurrent_13 {d bc bs : Nat} {h : aH} {n : Nat} {Q : aQ} {r0 : Option Nat} {x1 x2 x3 s0 : Int} (kt : s0 = 0 → Rn d bc bs mX7_tellCurrent 23 [some (vR r0), some (vI x1), some (vI x2), some (vI x3)] [] h n Q) (kf : s0 ≠ 0 → Rn d bc bs mX7_tellCurrent 16 [some (vR r0), some (vI x1), some (vI x2), some (vI x3)] [] h n Q) : Rn d (bc) (bs) mX7_tellCurrent 13 [some (vR r0), some (vI x1), some (vI x2), some (vI x3)] [vI s0] h n Q := by
  refine Rn_ifeq (tgt := 23) dX7_tellCurrent_13 rfl ?_ ?_
  · exact kt
  · exact kf
theorem BX7_tellCurrent_16 {d bc bs : Nat} {h : aH} {n : Nat} {Q : aQ} {r0 : Option Nat} {x1 x2 x3 : Int} (k : Rn d 0 0 mX12_isPlace 0 [some (vI x3)] [] h n (fun v h1 n1 => Rn (d + 1) bc bs mX7_tellCurrent 20 [some (vR r0), some (vI x1), some (vI x2), some (vI x3)] (v.toList ++ []) h1 n1 Q)) : Rn (d + 1) (bc) (bs) mX7_tellCurrent 16 [some (vR r0), some (vI x1), some (vI x2), some (vI x3)] [] h n Q := by
  refine Rn_iload_n dX7_tellCurrent_16 rfl rfl ?_
  exact Rn_callS (avs := [vI x3]) (st := []) (bc1 := 0) (bs1 := 0) (bc2 := bc) (bs2 := bs) fx_X12_isPlace dX7_tellCurrent_17 (Or.inr ⟨"BottledPost", List.mem_of_getElem? (i := 12) rfl⟩) wd_500 rfl (Nat.le_of_ble_eq_true rfl) (Nat.le_of_ble_eq_true rfl) (by omega) (by omega) (ls1 := [some (vI x3)]) rfl k
theorem BX7_tellCurrent_20 {d bc bs : Nat} {h : aH} {n : Nat} {Q : aQ} {r0 : Option Nat} {x1 x2 x3 s0 : Int} (kt : s0 ≠ 0 → Rn d bc bs mX7_tellCurrent 25 [some (vR r0), some (vI x1), some (vI x2), some (vI x3)] [] h n Q) (kf : s0 = 0 → Rn d bc bs mX7_tellCurrent 23 [some (vR r0), some (vI x1), some (vI x2), some (vI x3)] [] h n Q) : Rn d (bc) (bs) mX7_tellCurrent 20 [some (vR r0), some (vI x1), some (vI x2), some (vI x3)] [vI s0] h n Q := by
  refine Rn_ifne (tgt := 25) dX7_tellCurrent_20 rfl ?_ ?_
  · exact kt
  · exact kf
theorem BX7_tellCurrent_23 {d bc bs : Nat} {h : aH} {n : Nat} {Q : aQ} {r0 : Option Nat} {x1 x2 x3 : Int} (k : Q (some (vI 0)) h n) : Rn d (bc) (bs) mX7_tellCurrent 23 [some (vR r0), some (vI x1), some (vI x2), some (vI x3)] [] h n Q := by
  refine Rn_iconst dX7_tellCurrent_23 rfl ?_
  exact Rn_zreturn rfl dX7_tellCurrent_24 (by decide) k
theorem BX7_tellCurrent_25 {d bc bs : Nat} {h : aH} {n : Nat} {Q : aQ} {ar0 : Nat} {x1 x2 x3 : Int} {f1 : List aV} {t3 : Option Nat} (h2 : h ar0 = cO 7 f1) (g4 : f1[2]? = some (vR t3)) (b5 : -2147483648 ≤ x1 * 10 ∧ x1 * 10 < 2147483648) (b6 : -2147483648 ≤ (x1 * 10) + x2 ∧ (x1 * 10) + x2 < 2147483648) (k : Rn d 0 0 mX12_setCell 0 [some (vR t3), some (vI ((x1 * 10) + x2)), some (vI x3)] [] h n (fun v h1 n1 => Rn (d + 1) bc bs mX7_tellCurrent 39 [some (vR (some ar0)), some (vI x1), some (vI x2), some (vI x3)] (v.toList ++ []) h1 n1 Q)) : Rn (d + 1) (bc) (bs) mX7_tellCurrent 25 [some (vR (some ar0)), some (vI x1), some (vI x2), some (vI x3)] [] h n Q := by
  refine Rn_aload_n dX7_tellCurrent_25 rfl rfl rfl ?_
  refine Rn_getfield (ci := 7) (k := 2) dX7_tellCurrent_26 rfl in_7 (Nat.le_of_ble_eq_true rfl) wd_168 rfl h2 g4 ?_
  refine Rn_iload_n dX7_tellCurrent_29 rfl rfl ?_
  refine Rn_bipush dX7_tellCurrent_30 rfl ?_
  refine Rn_imul dX7_tellCurrent_32 ?_
  rw [w32_id b5.1 b5.2]
  refine Rn_iload_n dX7_tellCurrent_33 rfl rfl ?_
  refine Rn_iadd dX7_tellCurrent_34 ?_
  rw [w32_id b6.1 b6.2]
  refine Rn_iload_n dX7_tellCurrent_35 rfl rfl ?_
  exact Rn_callS (avs := [vR t3, vI ((x1 * 10) + x2), vI x3]) (st := []) (bc1 := 0) (bs1 := 0) (bc2 := bc) (bs2 := bs) fx_X12_setCell dX7_tellCurrent_36 (Or.inr ⟨"BottledPost", List.mem_of_getElem? (i := 1) rfl⟩) wd_164 rfl (Nat.le_of_ble_eq_true rfl) (Nat.le_of_ble_eq_true rfl) (by omega) (by omega) (ls1 := [some (vR t3), some (vI ((x1 * 10) + x2)), some (vI x3)]) rfl k
theorem BX7_tellCurrent_39 {d bc bs : Nat} {h : aH} {n : Nat} {Q : aQ} {r0 : Option Nat} {x1 x2 x3 : Int} (k : Q (some (vI 1)) h n) : Rn d (bc) (bs) mX7_tellCurrent 39 [some (vR r0), some (vI x1), some (vI x2), some (vI x3)] [] h n Q := by
  refine Rn_iconst dX7_tellCurrent_39 rfl ?_
  exact Rn_zreturn rfl dX7_tellCurrent_40 (by decide) k
theorem dX7_hasPerson_0 : decode cX7_hasPerson 0 = .ok (.iload_n 1, 1) := by decide +kernel
theorem dX7_hasPerson_1 : decode cX7_hasPerson 1 = .ok (.ifCond .lt 15, 3) := by decide +kernel
theorem dX7_hasPerson_4 : decode cX7_hasPerson 4 = .ok (.iload_n 1, 1) := by decide +kernel
theorem dX7_hasPerson_5 : decode cX7_hasPerson 5 = .ok (.aload_n 0, 1) := by decide +kernel
theorem dX7_hasPerson_6 : decode cX7_hasPerson 6 = .ok (.getfield 21, 3) := by decide +kernel
theorem dX7_hasPerson_9 : decode cX7_hasPerson 9 = .ok (.if_icmp .ge 7, 3) := by decide +kernel
theorem dX7_hasPerson_12 : decode cX7_hasPerson 12 = .ok (.iconst 1, 1) := by decide +kernel
theorem dX7_hasPerson_13 : decode cX7_hasPerson 13 = .ok (.goto 4, 3) := by decide +kernel
theorem dX7_hasPerson_16 : decode cX7_hasPerson 16 = .ok (.iconst 0, 1) := by decide +kernel
theorem dX7_hasPerson_17 : decode cX7_hasPerson 17 = .ok (.ireturn, 1) := by decide +kernel
theorem BX7_hasPerson_0 {d bc bs : Nat} {h : aH} {n : Nat} {Q : aQ} {r0 : Option Nat} {x1 : Int} (kt : x1 < 0 → Rn d bc bs mX7_hasPerson 16 [some (vR r0), some (vI x1)] [] h n Q) (kf : 0 ≤ x1 → Rn d bc bs mX7_hasPerson 4 [some (vR r0), some (vI x1)] [] h n Q) : Rn d (bc) (bs) mX7_hasPerson 0 [some (vR r0), some (vI x1)] [] h n Q := by
  refine Rn_iload_n dX7_hasPerson_0 rfl rfl ?_
  refine Rn_iflt (tgt := 16) dX7_hasPerson_1 rfl ?_ ?_
  · exact kt
  · exact kf
theorem BX7_hasPerson_4 {d bc bs : Nat} {h : aH} {n : Nat} {Q : aQ} {ar0 : Nat} {x1 v3 : Int} {f1 : List aV} (h2 : h ar0 = cO 7 f1) (g4 : f1[3]? = some (vI v3)) (kt : v3 ≤ x1 → Rn d bc bs mX7_hasPerson 16 [some (vR (some ar0)), some (vI x1)] [] h n Q) (kf : x1 < v3 → Rn d bc bs mX7_hasPerson 12 [some (vR (some ar0)), some (vI x1)] [] h n Q) : Rn d (bc) (bs) mX7_hasPerson 4 [some (vR (some ar0)), some (vI x1)] [] h n Q := by
  refine Rn_iload_n dX7_hasPerson_4 rfl rfl ?_
  refine Rn_aload_n dX7_hasPerson_5 rfl rfl rfl ?_
  refine Rn_getfield (ci := 7) (k := 3) dX7_hasPerson_6 rfl in_7 (Nat.le_of_ble_eq_true rfl) wd_169 rfl h2 g4 ?_
  refine Rn_icmpge (tgt := 16) dX7_hasPerson_9 rfl ?_ ?_
  · exact kt
  · exact kf
theorem BX7_hasPerson_12 {d bc bs : Nat} {h : aH} {n : Nat} {Q : aQ} {r0 : Option Nat} {x1 : Int} (k : Q (some (vI 1)) h n) : Rn d (bc) (bs) mX7_hasPerson 12 [some (vR r0), some (vI x1)] [] h n Q := by
  refine Rn_iconst dX7_hasPerson_12 rfl ?_
  refine Rn_goto (tgt := 17) dX7_hasPerson_13 rfl ?_
  exact Rn_zreturn rfl dX7_hasPerson_17 (by decide) k
theorem BX7_hasPerson_16 {d bc bs : Nat} {h : aH} {n : Nat} {Q : aQ} {r0 : Option Nat} {x1 : Int} (k : Q (some (vI 0)) h n) : Rn d (bc) (bs) mX7_hasPerson 16 [some (vR r0), some (vI x1)] [] h n Q := by
  refine Rn_iconst dX7_hasPerson_16 rfl ?_
  exact Rn_zreturn rfl dX7_hasPerson_17 (by decide) k
theorem dX7_placeOf_0 : decode cX7_placeOf 0 = .ok (.iload_n 1, 1) := by decide +kernel
theorem dX7_placeOf_1 : decode cX7_placeOf 1 = .ok (.ifCond .lt 29, 3) := by decide +kernel
theorem dX7_placeOf_4 : decode cX7_placeOf 4 = .ok (.iload_n 1, 1) := by decide +kernel
theorem dX7_placeOf_5 : decode cX7_placeOf 5 = .ok (.aload_n 0, 1) := by decide +kernel
theorem dX7_placeOf_6 : decode cX7_placeOf 6 = .ok (.getfield 21, 3) := by decide +kernel
theorem dX7_placeOf_9 : decode cX7_placeOf 9 = .ok (.if_icmp .ge 21, 3) := by decide +kernel
theorem dX7_placeOf_12 : decode cX7_placeOf 12 = .ok (.iload_n 1, 1) := by decide +kernel
theorem dX7_placeOf_13 : decode cX7_placeOf 13 = .ok (.aload_n 0, 1) := by decide +kernel
theorem dX7_placeOf_14 : decode cX7_placeOf 14 = .ok (.getfield 9, 3) := by decide +kernel
theorem dX7_placeOf_17 : decode cX7_placeOf 17 = .ok (.arraylength, 1) := by decide +kernel
theorem dX7_placeOf_18 : decode cX7_placeOf 18 = .ok (.if_icmp .ge 12, 3) := by decide +kernel
theorem dX7_placeOf_21 : decode cX7_placeOf 21 = .ok (.aload_n 0, 1) := by decide +kernel
theorem dX7_placeOf_22 : decode cX7_placeOf 22 = .ok (.getfield 9, 3) := by decide +kernel
theorem dX7_placeOf_25 : decode cX7_placeOf 25 = .ok (.iload_n 1, 1) := by decide +kernel
theorem dX7_placeOf_26 : decode cX7_placeOf 26 = .ok (.iaload, 1) := by decide +kernel
theorem dX7_placeOf_27 : decode cX7_placeOf 27 = .ok (.goto 4, 3) := by decide +kernel
theorem dX7_placeOf_30 : decode cX7_placeOf 30 = .ok (.iconst 0, 1) := by decide +kernel
theorem dX7_placeOf_31 : decode cX7_placeOf 31 = .ok (.ireturn, 1) := by decide +kernel
theorem BX7_placeOf_0 {d bc bs : Nat} {h : aH} {n : Nat} {Q : aQ} {r0 : Option Nat} {x1 : Int} (kt : x1 < 0 → Rn d bc bs mX7_placeOf 30 [some (vR r0), some (vI x1)] [] h n Q) (kf : 0 ≤ x1 → Rn d bc bs mX7_placeOf 4 [some (vR r0), some (vI x1)] [] h n Q) : Rn d (bc) (bs) mX7_placeOf 0 [some (vR r0), some (vI x1)] [] h n Q := by
  refine Rn_iload_n dX7_placeOf_0 rfl rfl ?_
  refine Rn_iflt (tgt := 30) dX7_placeOf_1 rfl ?_ ?_
  · exact kt
  · exact kf
theorem BX7_placeOf_4 {d bc bs : Nat} {h : aH} {n : Nat} {Q : aQ} {ar0 : Nat} {x1 v3 : Int} {f1 : List aV} (h2 : h ar0 = cO 7 f1) (g4 : f1[3]? = some (vI v3)) (kt : v3 ≤ x1 → Rn d bc bs mX7_placeOf 30 [some (vR (some ar0)), some (vI x1)] [] h n Q) (kf : x1 < v3 → Rn d bc bs mX7_placeOf 12 [some (vR (some ar0)), some (vI x1)] [] h n Q) : Rn d (bc) (bs) mX7_placeOf 4 [some (vR (some ar0)), some (vI x1)] [] h n Q := by
  refine Rn_iload_n dX7_placeOf_4 rfl rfl ?_
  refine Rn_aload_n dX7_placeOf_5 rfl rfl rfl ?_
  refine Rn_getfield (ci := 7) (k := 3) dX7_placeOf_6 rfl in_7 (Nat.le_of_ble_eq_true rfl) wd_169 rfl h2 g4 ?_
  refine Rn_icmpge (tgt := 30) dX7_placeOf_9 rfl ?_ ?_
  · exact kt
  · exact kf
theorem BX7_placeOf_12 {d bc bs : Nat} {h : aH} {n : Nat} {Q : aQ} {ar0 at3 : Nat} {x1 : Int} {f1 : List aV} {w5 : List Int} (h2 : h ar0 = cO 7 f1) (g4 : f1[0]? = some (vR (some at3))) (h6 : h at3 = cI w5) (y7 : w5.length < 2147483648) (z8 : at3 ≠ 0) (kt : (w5.length : Int) ≤ x1 → Rn d bc bs mX7_placeOf 30 [some (vR (some ar0)), some (vI x1)] [] h n Q) (kf : x1 < (w5.length : Int) → Rn d bc bs mX7_placeOf 21 [some (vR (some ar0)), some (vI x1)] [] h n Q) : Rn d (bc) (bs) mX7_placeOf 12 [some (vR (some ar0)), some (vI x1)] [] h n Q := by
  refine Rn_iload_n dX7_placeOf_12 rfl rfl ?_
  refine Rn_aload_n dX7_placeOf_13 rfl rfl rfl ?_
  refine Rn_getfield (ci := 7) (k := 0) dX7_placeOf_14 rfl in_7 (Nat.le_of_ble_eq_true rfl) wd_166 rfl h2 g4 ?_
  refine Rn_alenI dX7_placeOf_17 z8 h6 y7 ?_
  refine Rn_icmpge (tgt := 30) dX7_placeOf_18 rfl ?_ ?_
  · exact kt
  · exact kf
theorem BX7_placeOf_21 {d bc bs : Nat} {h : aH} {n : Nat} {Q : aQ} {ar0 at3 : Nat} {x1 v7 : Int} {f1 : List aV} {w5 : List Int} (h2 : h ar0 = cO 7 f1) (g4 : f1[0]? = some (vR (some at3))) (h6 : h at3 = cI w5) (i8 : 0 ≤ x1) (g9 : w5[(x1 : Int).toNat]? = some v7) (k : Q (some (vI v7)) h n) : Rn d (bc) (bs) mX7_placeOf 21 [some (vR (some ar0)), some (vI x1)] [] h n Q := by
  refine Rn_aload_n dX7_placeOf_21 rfl rfl rfl ?_
  refine Rn_getfield (ci := 7) (k := 0) dX7_placeOf_22 rfl in_7 (Nat.le_of_ble_eq_true rfl) wd_166 rfl h2 g4 ?_
  refine Rn_iload_n dX7_placeOf_25 rfl rfl ?_
  refine Rn_iaload dX7_placeOf_26 h6 i8 g9 ?_
  refine Rn_goto (tgt := 31) dX7_placeOf_27 rfl ?_
  exact Rn_ireturn rfl dX7_placeOf_31 k
theorem BX7_placeOf_30 {d bc bs : Nat} {h : aH} {n : Nat} {Q : aQ} {r0 : Option Nat} {x1 : Int} (k : Q (some (vI 0)) h n) : Rn d (bc) (bs) mX7_placeOf 30 [some (vR r0), some (vI x1)] [] h n Q := by
  refine Rn_iconst dX7_placeOf_30 rfl ?_
  exact Rn_ireturn rfl dX7_placeOf_31 k
theorem dX7_luckOf_0 : decode cX7_luckOf 0 = .ok (.iload_n 1, 1) := by decide +kernel
theorem dX7_luckOf_1 : decode cX7_luckOf 1 = .ok (.ifCond .lt 29, 3) := by decide +kernel
theorem dX7_luckOf_4 : decode cX7_luckOf 4 = .ok (.iload_n 1, 1) := by decide +kernel
theorem dX7_luckOf_5 : decode cX7_luckOf 5 = .ok (.aload_n 0, 1) := by decide +kernel
theorem dX7_luckOf_6 : decode cX7_luckOf 6 = .ok (.getfield 21, 3) := by decide +kernel
theorem dX7_luckOf_9 : decode cX7_luckOf 9 = .ok (.if_icmp .ge 21, 3) := by decide +kernel
theorem dX7_luckOf_12 : decode cX7_luckOf 12 = .ok (.iload_n 1, 1) := by decide +kernel
theorem dX7_luckOf_13 : decode cX7_luckOf 13 = .ok (.aload_n 0, 1) := by decide +kernel
theorem dX7_luckOf_14 : decode cX7_luckOf 14 = .ok (.getfield 15, 3) := by decide +kernel
theorem dX7_luckOf_17 : decode cX7_luckOf 17 = .ok (.arraylength, 1) := by decide +kernel
theorem dX7_luckOf_18 : decode cX7_luckOf 18 = .ok (.if_icmp .ge 12, 3) := by decide +kernel
theorem dX7_luckOf_21 : decode cX7_luckOf 21 = .ok (.aload_n 0, 1) := by decide +kernel
theorem dX7_luckOf_22 : decode cX7_luckOf 22 = .ok (.getfield 15, 3) := by decide +kernel
theorem dX7_luckOf_25 : decode cX7_luckOf 25 = .ok (.iload_n 1, 1) := by decide +kernel
theorem dX7_luckOf_26 : decode cX7_luckOf 26 = .ok (.iaload, 1) := by decide +kernel
theorem dX7_luckOf_27 : decode cX7_luckOf 27 = .ok (.goto 4, 3) := by decide +kernel
theorem dX7_luckOf_30 : decode cX7_luckOf 30 = .ok (.iconst 0, 1) := by decide +kernel
theorem dX7_luckOf_31 : decode cX7_luckOf 31 = .ok (.ireturn, 1) := by decide +kernel
theorem BX7_luckOf_0 {d bc bs : Nat} {h : aH} {n : Nat} {Q : aQ} {r0 : Option Nat} {x1 : Int} (kt : x1 < 0 → Rn d bc bs mX7_luckOf 30 [some (vR r0), some (vI x1)] [] h n Q) (kf : 0 ≤ x1 → Rn d bc bs mX7_luckOf 4 [some (vR r0), some (vI x1)] [] h n Q) : Rn d (bc) (bs) mX7_luckOf 0 [some (vR r0), some (vI x1)] [] h n Q := by
  refine Rn_iload_n dX7_luckOf_0 rfl rfl ?_
  refine Rn_iflt (tgt := 30) dX7_luckOf_1 rfl ?_ ?_
  · exact kt
  · exact kf
theorem BX7_luckOf_4 {d bc bs : Nat} {h : aH} {n : Nat} {Q : aQ} {ar0 : Nat} {x1 v3 : Int} {f1 : List aV} (h2 : h ar0 = cO 7 f1) (g4 : f1[3]? = some (vI v3)) (kt : v3 ≤ x1 → Rn d bc bs mX7_luckOf 30 [some (vR (some ar0)), some (vI x1)] [] h n Q) (kf : x1 < v3 → Rn d bc bs mX7_luckOf 12 [some (vR (some ar0)), some (vI x1)] [] h n Q) : Rn d (bc) (bs) mX7_luckOf 4 [some (vR (some ar0)), some (vI x1)] [] h n Q := by
  refine Rn_iload_n dX7_luckOf_4 rfl rfl ?_
  refine Rn_aload_n dX7_luckOf_5 rfl rfl rfl ?_
  refine Rn_getfield (ci := 7) (k := 3) dX7_luckOf_6 rfl in_7 (Nat.le_of_ble_eq_true rfl) wd_169 rfl h2 g4 ?_
  refine Rn_icmpge (tgt := 30) dX7_luckOf_9 rfl ?_ ?_
  · exact kt
  · exact kf
theorem BX7_luckOf_12 {d bc bs : Nat} {h : aH} {n : Nat} {Q : aQ} {ar0 at3 : Nat} {x1 : Int} {f1 : List aV} {w5 : List Int} (h2 : h ar0 = cO 7 f1) (g4 : f1[1]? = some (vR (some at3))) (h6 : h at3 = cI w5) (y7 : w5.length < 2147483648) (z8 : at3 ≠ 0) (kt : (w5.length : Int) ≤ x1 → Rn d bc bs mX7_luckOf 30 [some (vR (some ar0)), some (vI x1)] [] h n Q) (kf : x1 < (w5.length : Int) → Rn d bc bs mX7_luckOf 21 [some (vR (some ar0)), some (vI x1)] [] h n Q) : Rn d (bc) (bs) mX7_luckOf 12 [some (vR (some ar0)), some (vI x1)] [] h n Q := by
  refine Rn_iload_n dX7_luckOf_12 rfl rfl ?_
  refine Rn_aload_n dX7_luckOf_13 rfl rfl rfl ?_
  refine Rn_getfield (ci := 7) (k := 1) dX7_luckOf_14 rfl in_7 (Nat.le_of_ble_eq_true rfl) wd_167 rfl h2 g4 ?_
  refine Rn_alenI dX7_luckOf_17 z8 h6 y7 ?_
  refine Rn_icmpge (tgt := 30) dX7_luckOf_18 rfl ?_ ?_
  · exact kt
  · exact kf
theorem BX7_luckOf_21 {d bc bs : Nat} {h : aH} {n : Nat} {Q : aQ} {ar0 at3 : Nat} {x1 v7 : Int} {f1 : List aV} {w5 : List Int} (h2 : h ar0 = cO 7 f1) (g4 : f1[1]? = some (vR (some at3))) (h6 : h at3 = cI w5) (i8 : 0 ≤ x1) (g9 : w5[(x1 : Int).toNat]? = some v7) (k : Q (some (vI v7)) h n) : Rn d (bc) (bs) mX7_luckOf 21 [some (vR (some ar0)), some (vI x1)] [] h n Q := by
  refine Rn_aload_n dX7_luckOf_21 rfl rfl rfl ?_
  refine Rn_getfield (ci := 7) (k := 1) dX7_luckOf_22 rfl in_7 (Nat.le_of_ble_eq_true rfl) wd_167 rfl h2 g4 ?_
  refine Rn_iload_n dX7_luckOf_25 rfl rfl ?_
  refine Rn_iaload dX7_luckOf_26 h6 i8 g9 ?_
  refine Rn_goto (tgt := 31) dX7_luckOf_27 rfl ?_
  exact Rn_ireturn rfl dX7_luckOf_31 k
theorem BX7_luckOf_30 {d bc bs : Nat} {h : aH} {n : Nat} {Q : aQ} {r0 : Option Nat} {x1 : Int} (k : Q (some (vI 0)) h n) : Rn d (bc) (bs) mX7_luckOf 30 [some (vR r0), some (vI x1)] [] h n Q := by
  refine Rn_iconst dX7_luckOf_30 rfl ?_
  exact Rn_ireturn rfl dX7_luckOf_31 k
theorem dX7_isInhabited_0 : decode cX7_isInhabited 0 = .ok (.iconst 0, 1) := by decide +kernel
theorem dX7_isInhabited_1 : decode cX7_isInhabited 1 = .ok (.istore_n 2, 1) := by decide +kernel
theorem dX7_isInhabited_2 : decode cX7_isInhabited 2 = .ok (.iload_n 2, 1) := by decide +kernel
theorem dX7_isInhabited_3 : decode cX7_isInhabited 3 = .ok (.aload_n 0, 1) := by decide +kernel
theorem dX7_isInhabited_4 : decode cX7_isInhabited 4 = .ok (.getfield 21, 3) := by decide +kernel
theorem dX7_isInhabited_7 : decode cX7_isInhabited 7 = .ok (.if_icmp .ge 20, 3) := by decide +kernel
theorem dX7_isInhabited_10 : decode cX7_isInhabited 10 = .ok (.aload_n 0, 1) := by decide +kernel
theorem dX7_isInhabited_11 : decode cX7_isInhabited 11 = .ok (.iload_n 2, 1) := by decide +kernel
theorem dX7_isInhabited_12 : decode cX7_isInhabited 12 = .ok (.invokevirtual 41, 3) := by decide +kernel
theorem dX7_isInhabited_15 : decode cX7_isInhabited 15 = .ok (.iload_n 1, 1) := by decide +kernel
theorem dX7_isInhabited_16 : decode cX7_isInhabited 16 = .ok (.if_icmp .ne 5, 3) := by decide +kernel
theorem dX7_isInhabited_19 : decode cX7_isInhabited 19 = .ok (.iconst 1, 1) := by decide +kernel
theorem dX7_isInhabited_20 : decode cX7_isInhabited 20 = .ok (.ireturn, 1) := by decide +kernel
theorem dX7_isInhabited_21 : decode cX7_isInhabited 21 = .ok (.iinc 2 1, 3) := by decide +kernel
theorem dX7_isInhabited_24 : decode cX7_isInhabited 24 = .ok (.goto (-22), 3) := by decide +kernel
theorem dX7_isInhabited_27 : decode cX7_isInhabited 27 = .ok (.iconst 0, 1) := by decide +kernel
theorem dX7_isInhabited_28 : decode cX7_isInhabited 28 = .ok (.ireturn, 1) := by decide +kernel
theorem BX7_isInhabited_0 {d bc bs : Nat} {h : aH} {n : Nat} {Q : aQ} {r0 : Option Nat} {x1 : Int} {l2 : Option aV} (k : Rn d bc bs mX7_isInhabited 2 [some (vR r0), some (vI x1), some (vI 0)] [] h n Q) : Rn d (bc) (bs) mX7_isInhabited 0 [some (vR r0), some (vI x1), l2] [] h n Q := by
  refine Rn_iconst dX7_isInhabited_0 rfl ?_
  refine Rn_istore_n dX7_isInhabited_1 rfl (Nat.le_of_ble_eq_true rfl) rfl rfl ?_
  exact k
theorem BX7_isInhabited_2 {d bc bs : Nat} {h : aH} {n : Nat} {Q : aQ} {ar0 : Nat} {x1 x2 v3 : Int} {f1 : List aV} (h2 : h ar0 = cO 7 f1) (g4 : f1[3]? = some (vI v3)) (kt : v3 ≤ x2 → Rn d bc bs mX7_isInhabited 27 [some (vR (some ar0)), some (vI x1), some (vI x2)] [] h n Q) (kf : x2 < v3 → Rn d bc bs mX7_isInhabited 10 [some (vR (some ar0)), some (vI x1), some (vI x2)] [] h n Q) : Rn d (bc) (bs) mX7_isInhabited 2 [some (vR (some ar0)), some (vI x1), some (vI x2)] [] h n Q := by
  refine Rn_iload_n dX7_isInhabited_2 rfl rfl ?_
  refine Rn_aload_n dX7_isInhabited_3 rfl rfl rfl ?_
  refine Rn_getfield (ci := 7) (k := 3) dX7_isInhabited_4 rfl in_7 (Nat.le_of_ble_eq_true rfl) wd_169 rfl h2 g4 ?_
  refine Rn_icmpge (tgt := 27) dX7_isInhabited_7 rfl ?_ ?_
  · exact kt
  · exact kf
theorem BX7_isInhabited_10 {d bc bs : Nat} {h : aH} {n : Nat} {Q : aQ} {ar0 : Nat} {x1 x2 : Int} {f1 : List aV} (h2 : h ar0 = cO 7 f1) (k : Rn d 0 0 mX7_placeOf 0 [some (vR (some ar0)), some (vI x2)] [] h n (fun v h1 n1 => Rn (d + 1) bc bs mX7_isInhabited 15 [some (vR (some ar0)), some (vI x1), some (vI x2)] (v.toList ++ []) h1 n1 Q)) : Rn (d + 1) (bc) (bs) mX7_isInhabited 10 [some (vR (some ar0)), some (vI x1), some (vI x2)] [] h n Q := by
  refine Rn_aload_n dX7_isInhabited_10 rfl rfl rfl ?_
  refine Rn_iload_n dX7_isInhabited_11 rfl rfl ?_
  exact Rn_callV (ci := 7) (avs := [vI x2]) (st := []) (bc1 := 0) (bs1 := 0) (bc2 := bc) (bs2 := bs) fx_X7_placeOf dX7_isInhabited_12 wd_1045 wd_812 wd_813 rfl h2 rfl (Nat.le_of_ble_eq_true rfl) (Nat.le_of_ble_eq_true rfl) (by omega) (by omega) (ls1 := [some (vR (some ar0)), some (vI x2)]) rfl k
theorem BX7_isInhabited_15 {d bc bs : Nat} {h : aH} {n : Nat} {Q : aQ} {r0 : Option Nat} {x1 x2 s0 : Int} (kt : s0 ≠ x1 → Rn d bc bs mX7_isInhabited 21 [some (vR r0), some (vI x1), some (vI x2)] [] h n Q) (kf : s0 = x1 → Rn d bc bs mX7_isInhabited 19 [some (vR r0), some (vI x1), some (vI x2)] [] h n Q) : Rn d (bc) (bs) mX7_isInhabited 15 [some (vR r0), some (vI x1), some (vI x2)] [vI s0] h n Q := by
  refine Rn_iload_n dX7_isInhabited_15 rfl rfl ?_
  refine Rn_icmpne (tgt := 21) dX7_isInhabited_16 rfl ?_ ?_
  · exact kt
  · exact kf
theorem BX7_isInhabited_19 {d bc bs : Nat} {h : aH} {n : Nat} {Q : aQ} {r0 : Option Nat} {x1 x2 : Int} (k : Q (some (vI 1)) h n) : Rn d (bc) (bs) mX7_isInhabited 19 [some (vR r0), some (vI x1), some (vI x2)] [] h n Q := by
  refine Rn_iconst dX7_isInhabited_19 rfl ?_
  exact Rn_zreturn rfl dX7_isInhabited_20 (by decide) k
theorem BX7_isInhabited_21 {d bc bs : Nat} {h : aH} {n : Nat} {Q : aQ} {r0 : Option Nat} {x1 x2 : Int} (b1 : -2147483648 ≤ x2 + 1 ∧ x2 + 1 < 2147483648) (k : Rn d bc bs mX7_isInhabited 2 [some (vR r0), some (vI x1), some (vI (x2 + 1))] [] h n Q) : Rn d (bc) (bs) mX7_isInhabited 21 [some (vR r0), some (vI x1), some (vI x2)] [] h n Q := by
  refine Rn_iinc dX7_isInhabited_21 rfl (Nat.le_of_ble_eq_true rfl) rfl rfl rfl ?_
  rw [w32_id b1.1 b1.2]
  refine Rn_goto (tgt := 2) dX7_isInhabited_24 rfl ?_
  exact k
theorem BX7_isInhabited_27 {d bc bs : Nat} {h : aH} {n : Nat} {Q : aQ} {r0 : Option Nat} {x1 x2 : Int} (k : Q (some (vI 0)) h n) : Rn d (bc) (bs) mX7_isInhabited 27 [some (vR r0), some (vI x1), some (vI x2)] [] h n Q := by
  refine Rn_iconst dX7_isInhabited_27 rfl ?_
  exact Rn_zreturn rfl dX7_isInhabited_28 (by decide) k
theorem dX7_leadsTo_0 : decode cX7_leadsTo 0 = .ok (.iload_n 1, 1) := by decide +kernel
theorem dX7_leadsTo_1 : decode cX7_leadsTo 1 = .ok (.iconst 3, 1) := by decide +kernel
theorem dX7_leadsTo_2 : decode cX7_leadsTo 2 = .ok (.invokestatic 45, 3) := by decide +kernel
theorem dX7_leadsTo_5 : decode cX7_leadsTo 5 = .ok (.bipush 10, 2) := by decide +kernel
theorem dX7_leadsTo_7 : decode cX7_leadsTo 7 = .ok (.imul, 1) := by decide +kernel
theorem dX7_leadsTo_8 : decode cX7_leadsTo 8 = .ok (.iload_n 2, 1) := by decide +kernel
theorem dX7_leadsTo_9 : decode cX7_leadsTo 9 = .ok (.iadd, 1) := by decide +kernel
theorem dX7_leadsTo_10 : decode cX7_leadsTo 10 = .ok (.istore_n 3, 1) := by decide +kernel
theorem dX7_leadsTo_11 : decode cX7_leadsTo 11 = .ok (.iload_n 3, 1) := by decide +kernel
theorem dX7_leadsTo_12 : decode cX7_leadsTo 12 = .ok (.ifCond .lt 21, 3) := by decide +kernel
theorem dX7_leadsTo_15 : decode cX7_leadsTo 15 = .ok (.iload_n 3, 1) := by decide +kernel
theorem dX7_leadsTo_16 : decode cX7_leadsTo 16 = .ok (.aload_n 0, 1) := by decide +kernel
theorem dX7_leadsTo_17 : decode cX7_leadsTo 17 = .ok (.getfield 18, 3) := by decide +kernel
theorem dX7_leadsTo_20 : decode cX7_leadsTo 20 = .ok (.arraylength, 1) := by decide +kernel
theorem dX7_leadsTo_21 : decode cX7_leadsTo 21 = .ok (.if_icmp .ge 12, 3) := by decide +kernel
theorem dX7_leadsTo_24 : decode cX7_leadsTo 24 = .ok (.aload_n 0, 1) := by decide +kernel
theorem dX7_leadsTo_25 : decode cX7_leadsTo 25 = .ok (.getfield 18, 3) := by decide +kernel
theorem dX7_leadsTo_28 : decode cX7_leadsTo 28 = .ok (.iload_n 3, 1) := by decide +kernel
theorem dX7_leadsTo_29 : decode cX7_leadsTo 29 = .ok (.iaload, 1) := by decide +kernel
theorem dX7_leadsTo_30 : decode cX7_leadsTo 30 = .ok (.goto 4, 3) := by decide +kernel
theorem dX7_leadsTo_33 : decode cX7_leadsTo 33 = .ok (.iconst 0, 1) := by decide +kernel
theorem dX7_leadsTo_34 : decode cX7_leadsTo 34 = .ok (.ireturn, 1) := by decide +kernel
theorem BX7_leadsTo_0 {d bc bs : Nat} {h : aH} {n : Nat} {Q : aQ} {r0 : Option Nat} {x1 x2 : Int} {l3 : Option aV} (k : Rn d 0 0 mJ9_floorMod_7cf53 0 [some (vI x1), some (vI 3), none] [] h n (fun v h1 n1 => Rn (d + 1) bc bs mX7_leadsTo 5 [some (vR r0), some (vI x1), some (vI x2), l3] (v.toList ++ []) h1 n1 Q)) : Rn (d + 1) (bc) (bs) mX7_leadsTo 0 [some (vR r0), some (vI x1), some (vI x2), l3] [] h n Q := by
  refine Rn_iload_n dX7_leadsTo_0 rfl rfl ?_
  refine Rn_iconst dX7_leadsTo_1 rfl ?_
  exact Rn_callS (avs := [vI x1, vI 3]) (st := []) (bc1 := 0) (bs1 := 0) (bc2 := bc) (bs2 := bs) fx_J9_floorMod_7cf53 dX7_leadsTo_2 (Or.inl wd_888) wd_889 rfl (Nat.le_of_ble_eq_true rfl) (Nat.le_of_ble_eq_true rfl) (by omega) (by omega) (ls1 := [some (vI x1), some (vI 3), none]) rfl k
theorem BX7_leadsTo_5 {d bc bs : Nat} {h : aH} {n : Nat} {Q : aQ} {r0 : Option Nat} {x1 x2 s0 : Int} {l3 : Option aV} (b1 : -2147483648 ≤ s0 * 10 ∧ s0 * 10 < 2147483648) (b2 : -2147483648 ≤ (s0 * 10) + x2 ∧ (s0 * 10) + x2 < 2147483648) (kt : ((s0 * 10) + x2) < 0 → Rn d bc bs mX7_leadsTo 33 [some (vR r0), some (vI x1), some (vI x2), some (vI ((s0 * 10) + x2))] [] h n Q) (kf : 0 ≤ ((s0 * 10) + x2) → Rn d bc bs mX7_leadsTo 15 [some (vR r0), some (vI x1), some (vI x2), some (vI ((s0 * 10) + x2))] [] h n Q) : Rn d (bc) (bs) mX7_leadsTo 5 [some (vR r0), some (vI x1), some (vI x2), l3] [vI s0] h n Q := by
  refine Rn_bipush dX7_leadsTo_5 rfl ?_
  refine Rn_imul dX7_leadsTo_7 ?_
  rw [w32_id b1.1 b1.2]
  refine Rn_iload_n dX7_leadsTo_8 rfl rfl ?_
  refine Rn_iadd dX7_leadsTo_9 ?_
  rw [w32_id b2.1 b2.2]
  refine Rn_istore_n dX7_leadsTo_10 rfl (Nat.le_of_ble_eq_true rfl) rfl rfl ?_
  refine Rn_iload_n dX7_leadsTo_11 rfl rfl ?_
  refine Rn_iflt (tgt := 33) dX7_leadsTo_12 rfl ?_ ?_
  · exact kt
  · exact kf
theorem BX7_leadsTo_15 {d bc bs : Nat} {h : aH} {n : Nat} {Q : aQ} {ar0 at3 : Nat} {x1 x2 x3 : Int} {f1 : List aV} {w5 : List Int} (h2 : h ar0 = cO 7 f1) (g4 : f1[2]? = some (vR (some at3))) (h6 : h at3 = cI w5) (y7 : w5.length < 2147483648) (z8 : at3 ≠ 0) (kt : (w5.length : Int) ≤ x3 → Rn d bc bs mX7_leadsTo 33 [some (vR (some ar0)), some (vI x1), some (vI x2), some (vI x3)] [] h n Q) (kf : x3 < (w5.length : Int) → Rn d bc bs mX7_leadsTo 24 [some (vR (some ar0)), some (vI x1), some (vI x2), some (vI x3)] [] h n Q) : Rn d (bc) (bs) mX7_leadsTo 15 [some (vR (some ar0)), some (vI x1), some (vI x2), some (vI x3)] [] h n Q := by
  refine Rn_iload_n dX7_leadsTo_15 rfl rfl ?_
  refine Rn_aload_n dX7_leadsTo_16 rfl rfl rfl ?_
  refine Rn_getfield (ci := 7) (k := 2) dX7_leadsTo_17 rfl in_7 (Nat.le_of_ble_eq_true rfl) wd_168 rfl h2 g4 ?_
  refine Rn_alenI dX7_leadsTo_20 z8 h6 y7 ?_
  refine Rn_icmpge (tgt := 33) dX7_leadsTo_21 rfl ?_ ?_
  · exact kt
  · exact kf
theorem BX7_leadsTo_24 {d bc bs : Nat} {h : aH} {n : Nat} {Q : aQ} {ar0 at3 : Nat} {x1 x2 x3 v7 : Int} {f1 : List aV} {w5 : List Int} (h2 : h ar0 = cO 7 f1) (g4 : f1[2]? = some (vR (some at3))) (h6 : h at3 = cI w5) (i8 : 0 ≤ x3) (g9 : w5[(x3 : Int).toNat]? = some v7) (k : Q (some (vI v7)) h n) : Rn d (bc) (bs) mX7_leadsTo 24 [some (vR (some ar0)), some (vI x1), some (vI x2), some (vI x3)] [] h n Q := by
  refine Rn_aload_n dX7_leadsTo_24 rfl rfl rfl ?_
  refine Rn_getfield (ci := 7) (k := 2) dX7_leadsTo_25 rfl in_7 (Nat.le_of_ble_eq_true rfl) wd_168 rfl h2 g4 ?_
  refine Rn_iload_n dX7_leadsTo_28 rfl rfl ?_
  refine Rn_iaload dX7_leadsTo_29 h6 i8 g9 ?_
  refine Rn_goto (tgt := 34) dX7_leadsTo_30 rfl ?_
  exact Rn_ireturn rfl dX7_leadsTo_34 k
theorem BX7_leadsTo_33 {d bc bs : Nat} {h : aH} {n : Nat} {Q : aQ} {r0 : Option Nat} {x1 x2 x3 : Int} (k : Q (some (vI 0)) h n) : Rn d (bc) (bs) mX7_leadsTo 33 [some (vR r0), some (vI x1), some (vI x2), some (vI x3)] [] h n Q := by
  refine Rn_iconst dX7_leadsTo_33 rfl ?_
  exact Rn_ireturn rfl dX7_leadsTo_34 k
theorem dX7_driftsTo_0 : decode cX7_driftsTo 0 = .ok (.iload_n 1, 1) := by decide +kernel
theorem dX7_driftsTo_1 : decode cX7_driftsTo 1 = .ok (.istore 4, 2) := by decide +kernel
theorem dX7_driftsTo_3 : decode cX7_driftsTo 3 = .ok (.iconst 0, 1) := by decide +kernel
theorem dX7_driftsTo_4 : decode cX7_driftsTo 4 = .ok (.istore 5, 2) := by decide +kernel
theorem dX7_driftsTo_6 : decode cX7_driftsTo 6 = .ok (.iload 5, 2) := by decide +kernel
theorem dX7_driftsTo_8 : decode cX7_driftsTo 8 = .ok (.iload_n 3, 1) := by decide +kernel
theorem dX7_driftsTo_9 : decode cX7_driftsTo 9 = .ok (.if_icmp .ge 21, 3) := by decide +kernel
theorem dX7_driftsTo_12 : decode cX7_driftsTo 12 = .ok (.aload_n 0, 1) := by decide +kernel
theorem dX7_driftsTo_13 : decode cX7_driftsTo 13 = .ok (.iload_n 2, 1) := by decide +kernel
theorem dX7_driftsTo_14 : decode cX7_driftsTo 14 = .ok (.iload 5, 2) := by decide +kernel
theorem dX7_driftsTo_16 : decode cX7_driftsTo 16 = .ok (.iadd, 1) := by decide +kernel
theorem dX7_driftsTo_17 : decode cX7_driftsTo 17 = .ok (.iload 4, 2) := by decide +kernel
theorem dX7_driftsTo_19 : decode cX7_driftsTo 19 = .ok (.invokevirtual 51, 3) := by decide +kernel
theorem dX7_driftsTo_22 : decode cX7_driftsTo 22 = .ok (.istore 4, 2) := by decide +kernel
theorem dX7_driftsTo_24 : decode cX7_driftsTo 24 = .ok (.iinc 5 1, 3) := by decide +kernel
theorem dX7_driftsTo_27 : decode cX7_driftsTo 27 = .ok (.goto (-21), 3) := by decide +kernel
theorem dX7_driftsTo_30 : decode cX7_driftsTo 30 = .ok (.iload 4, 2) := by decide +kernel
theorem dX7_driftsTo_32 : decode cX7_driftsTo 32 = .ok (.ireturn, 1) := by decide +kernel
theorem BX7_driftsTo_0 {d bc bs : Nat} {h : aH} {n : Nat} {Q : aQ} {r0 : Option Nat} {x1 x2 x3 : Int} {l4 l5 : Option aV} (k : Rn d bc bs mX7_driftsTo 6 [some (vR r0), some (vI x1), some (vI x2), some (vI x3), some (vI x1), some (vI 0)] [] h n Q) : Rn d (bc) (bs) mX7_driftsTo 0 [some (vR r0), some (vI x1), some (vI x2), some (vI x3), l4, l5] [] h n Q := by
  refine Rn_iload_n dX7_driftsTo_0 rfl rfl ?_
  refine Rn_istore dX7_driftsTo_1 (Nat.le_of_ble_eq_true rfl) rfl rfl ?_
  refine Rn_iconst dX7_driftsTo_3 rfl ?_
  refine Rn_istore dX7_driftsTo_4 (Nat.le_of_ble_eq_true rfl) rfl rfl ?_
  exact k
theorem BX7_driftsTo_6 {d bc bs : Nat} {h : aH} {n : Nat} {Q : aQ} {r0 : Option Nat} {x1 x2 x3 x4 x5 : Int} (kt : x3 ≤ x5 → Rn d bc bs mX7_driftsTo 30 [some (vR r0), some (vI x1), some (vI x2), some (vI x3), some (vI x4), some (vI x5)] [] h n Q) (kf : x5 < x3 → Rn d bc bs mX7_driftsTo 12 [some (vR r0), some (vI x1), some (vI x2), some (vI x3), some (vI x4), some (vI x5)] [] h n Q) : Rn d (bc) (bs) mX7_driftsTo 6 [some (vR r0), some (vI x1), some (vI x2), some (vI x3), some (vI x4), some (vI x5)] [] h n Q := by
  refine Rn_iload dX7_driftsTo_6 rfl ?_
  refine Rn_iload_n dX7_driftsTo_8 rfl rfl ?_
  refine Rn_icmpge (tgt := 30) dX7_driftsTo_9 rfl ?_ ?_
  · exact kt
  · exact kf
theorem BX7_driftsTo_12 {d bc bs : Nat} {h : aH} {n : Nat} {Q : aQ} {ar0 : Nat} {x1 x2 x3 x4 x5 : Int} {f2 : List aV} (b1 : -2147483648 ≤ x2 + x5 ∧ x2 + x5 < 2147483648) (h3 : h ar0 = cO 7 f2) (k : Rn d 0 0 mX7_leadsTo 0 [some (vR (some ar0)), some (vI (x2 + x5)), some (vI x4), none] [] h n (fun v h1 n1 => Rn (d + 1) bc bs mX7_driftsTo 22 [some (vR (some ar0)), some (vI x1), some (vI x2), some (vI x3), some (vI x4), some (vI x5)] (v.toList ++ []) h1 n1 Q)) : Rn (d + 1) (bc) (bs) mX7_driftsTo 12 [some (vR (some ar0)), some (vI x1), some (vI x2), some (vI x3), some (vI x4), some (vI x5)] [] h n Q := by
  refine Rn_aload_n dX7_driftsTo_12 rfl rfl rfl ?_
  refine Rn_iload_n dX7_driftsTo_13 rfl rfl ?_
  refine Rn_iload dX7_driftsTo_14 rfl ?_
  refine Rn_iadd dX7_driftsTo_16 ?_
  rw [w32_id b1.1 b1.2]
  refine Rn_iload dX7_driftsTo_17 rfl ?_
  exact Rn_callV (ci := 7) (avs := [vI (x2 + x5), vI x4]) (st := []) (bc1 := 0) (bs1 := 0) (bc2 := bc) (bs2 := bs) fx_X7_leadsTo dX7_driftsTo_19 wd_1076 wd_885 wd_886 rfl h3 rfl (Nat.le_of_ble_eq_true rfl) (Nat.le_of_ble_eq_true rfl) (by omega) (by omega) (ls1 := [some (vR (some ar0)), some (vI (x2 + x5)), some (vI x4), none]) rfl k
theorem BX7_driftsTo_22 {d bc bs : Nat} {h : aH} {n : Nat} {Q : aQ} {r0 : Option Nat} {x1 x2 x3 x4 x5 s0 : Int} (b1 : -2147483648 ≤ x5 + 1 ∧ x5 + 1 < 2147483648) (k : Rn d bc bs mX7_driftsTo 6 [some (vR r0), some (vI x1), some (vI x2), some (vI x3), some (vI s0), some (vI (x5 + 1))] [] h n Q) : Rn d (bc) (bs) mX7_driftsTo 22 [some (vR r0), some (vI x1), some (vI x2), some (vI x3), some (vI x4), some (vI x5)] [vI s0] h n Q := by
  refine Rn_istore dX7_driftsTo_22 (Nat.le_of_ble_eq_true rfl) rfl rfl ?_
  refine Rn_iinc dX7_driftsTo_24 rfl (Nat.le_of_ble_eq_true rfl) rfl rfl rfl ?_
  rw [w32_id b1.1 b1.2]
  refine Rn_goto (tgt := 6) dX7_driftsTo_27 rfl ?_
  exact k
theorem BX7_driftsTo_30 {d bc bs : Nat} {h : aH} {n : Nat} {Q : aQ} {r0 : Option Nat} {x1 x2 x3 x4 x5 : Int} (k : Q (some (vI x4)) h n) : Rn d (bc) (bs) mX7_driftsTo 30 [some (vR r0), some (vI x1), some (vI x2), some (vI x3), some (vI x4), some (vI x5)] [] h n Q := by
  refine Rn_iload dX7_driftsTo_30 rfl ?_
  exact Rn_ireturn rfl dX7_driftsTo_32 k
theorem dX8_init_0 : decode cX8_init 0 = .ok (.aload_n 0, 1) := by decide +kernel
theorem dX8_init_1 : decode cX8_init 1 = .ok (.invokespecial 3, 3) := by decide +kernel
theorem dX8_init_4 : decode cX8_init 4 = .ok (.aload_n 0, 1) := by decide +kernel
theorem dX8_init_5 : decode cX8_init 5 = .ok (.bipush 30, 2) := by decide +kernel
theorem dX8_init_7 : decode cX8_init 7 = .ok (.anewarray 9, 3) := by decide +kernel
theorem dX8_init_10 : decode cX8_init 10 = .ok (.putfield 11, 3) := by decide +kernel
theorem dX8_init_13 : decode cX8_init 13 = .ok (.aload_n 0, 1) := by decide +kernel
theorem dX8_init_14 : decode cX8_init 14 = .ok (.iconst 0, 1) := by decide +kernel
theorem dX8_init_15 : decode cX8_init 15 = .ok (.putfield 17, 3) := by decide +kernel
theorem dX8_init_18 : decode cX8_init 18 = .ok (.iconst 0, 1) := by decide +kernel
theorem dX8_init_19 : decode cX8_init 19 = .ok (.istore_n 1, 1) := by decide +kernel
theorem dX8_init_20 : decode cX8_init 20 = .ok (.iload_n 1, 1) := by decide +kernel
theorem dX8_init_21 : decode cX8_init 21 = .ok (.aload_n 0, 1) := by decide +kernel
theorem dX8_init_22 : decode cX8_init 22 = .ok (.getfield 11, 3) := by decide +kernel
theorem dX8_init_25 : decode cX8_init 25 = .ok (.arraylength, 1) := by decide +kernel
theorem dX8_init_26 : decode cX8_init 26 = .ok (.if_icmp .ge 22, 3) := by decide +kernel
theorem dX8_init_29 : decode cX8_init 29 = .ok (.aload_n 0, 1) := by decide +kernel
theorem dX8_init_30 : decode cX8_init 30 = .ok (.getfield 11, 3) := by decide +kernel
theorem dX8_init_33 : decode cX8_init 33 = .ok (.iload_n 1, 1) := by decide +kernel
theorem dX8_init_34 : decode cX8_init 34 = .ok (.new 9, 3) := by decide +kernel
theorem dX8_init_37 : decode cX8_init 37 = .ok (.dup, 1) := by decide +kernel
theorem dX8_init_38 : decode cX8_init 38 = .ok (.invokespecial 21, 3) := by decide +kernel
theorem dX8_init_41 : decode cX8_init 41 = .ok (.aastore, 1) := by decide +kernel
theorem dX8_init_42 : decode cX8_init 42 = .ok (.iinc 1 1, 3) := by decide +kernel
theorem dX8_init_45 : decode cX8_init 45 = .ok (.goto (-25), 3) := by decide +kernel
theorem dX8_init_48 : decode cX8_init 48 = .ok (.return_, 1) := by decide +kernel
theorem BX8_init_0 {d bc bs : Nat} {h : aH} {n : Nat} {Q : aQ} {ar0 : Nat} {l1 : Option aV} (k : Rn (d + 1) bc bs mX8_init 10 [some (vR (some ar0)), l1] [vR (some n), vR (some ar0)] (up h n (cQ 6 (List.replicate 30 none))) (n + 1) Q) : Rn (d + 1) (bc + 1) (bs + 30) mX8_init 0 [some (vR (some ar0)), l1] [] h n Q := by
  refine Rn_aload_n dX8_init_0 rfl rfl rfl ?_
  refine Rn_objInit dX8_init_1 wd_229 wd_149 wd_150 (Nat.le_of_ble_eq_true rfl) ?_
  refine Rn_aload_n dX8_init_4 rfl rfl rfl ?_
  refine Rn_bipush dX8_init_5 rfl ?_
  refine Rn_newarrQ (k := 6) (N := 30) (bc := bc) (bs := bs) (by decide) (by omega) (by omega) wd_230 dX8_init_7 (by decide) ?_
  exact k
theorem BX8_init_10 {d bc bs : Nat} {h : aH} {n : Nat} {Q : aQ} {r0 q1 : Option Nat} {l1 : Option aV} {aq0 : Nat} {f1 : List aV} (h2 : h aq0 = cO 8 f1) (m3 : 0 < f1.length) (k : Rn d bc bs mX8_init 13 [some (vR r0), l1] [] (up h aq0 (cO 8 (f1.set 0 (vR q1)))) n Q) : Rn d (bc) (bs) mX8_init 10 [some (vR r0), l1] [vR q1, vR (some aq0)] h n Q := by
  refine Rn_putfield (ci := 8) (k := 0) dX8_init_10 rfl in_8 tyX8_ok nmX8 (Nat.le_of_ble_eq_true rfl) wd_233 rfl (Or.inr ⟨rfl, rfl⟩) trivial m3 h2 ?_
  exact k
theorem BX8_init_13 {d bc bs : Nat} {h : aH} {n : Nat} {Q : aQ} {ar0 : Nat} {l1 : Option aV} {f1 : List aV} (h2 : h ar0 = cO 8 f1) (m3 : 1 < f1.length) (k : Rn d bc bs mX8_init 18 [some (vR (some ar0)), l1] [] (up h ar0 (cO 8 (f1.set 1 (vI 0)))) n Q) : Rn d (bc) (bs) mX8_init 13 [some (vR (some ar0)), l1] [] h n Q := by
  refine Rn_aload_n dX8_init_13 rfl rfl rfl ?_
  refine Rn_iconst dX8_init_14 rfl ?_
  refine Rn_putfield (ci := 8) (k := 1) dX8_init_15 rfl in_8 tyX8_ok nmX8 (Nat.le_of_ble_eq_true rfl) wd_234 rfl (Or.inl rfl) trivial m3 h2 ?_
  exact k
theorem BX8_init_18 {d bc bs : Nat} {h : aH} {n : Nat} {Q : aQ} {r0 : Option Nat} {l1 : Option aV} (k : Rn d bc bs mX8_init 20 [some (vR r0), some (vI 0)] [] h n Q) : Rn d (bc) (bs) mX8_init 18 [some (vR r0), l1] [] h n Q := by
  refine Rn_iconst dX8_init_18 rfl ?_
  refine Rn_istore_n dX8_init_19 rfl (Nat.le_of_ble_eq_true rfl) rfl rfl ?_
  exact k
theorem BX8_init_20 {d bc bs : Nat} {h : aH} {n : Nat} {Q : aQ} {ar0 at3 : Nat} {x1 : Int} {f1 : List aV} {w5 : List (Option Nat)} (h2 : h ar0 = cO 8 f1) (g4 : f1[0]? = some (vR (some at3))) (h6 : h at3 = cQ 6 w5) (y7 : w5.length < 2147483648) (z8 : at3 ≠ 0) (kt : (w5.length : Int) ≤ x1 → Rn d bc bs mX8_init 48 [some (vR (some ar0)), some (vI x1)] [] h n Q) (kf : x1 < (w5.length : Int) → Rn d bc bs mX8_init 29 [some (vR (some ar0)), some (vI x1)] [] h n Q) : Rn d (bc) (bs) mX8_init 20 [some (vR (some ar0)), some (vI x1)] [] h n Q := by
  refine Rn_iload_n dX8_init_20 rfl rfl ?_
  refine Rn_aload_n dX8_init_21 rfl rfl rfl ?_
  refine Rn_getfield (ci := 8) (k := 0) dX8_init_22 rfl in_8 (Nat.le_of_ble_eq_true rfl) wd_233 rfl h2 g4 ?_
  refine Rn_alenQ dX8_init_25 z8 h6 y7 ?_
  refine Rn_icmpge (tgt := 48) dX8_init_26 rfl ?_ ?_
  · exact kt
  · exact kf
theorem BX8_init_29 {d bc bs : Nat} {h : aH} {n : Nat} {Q : aQ} {ar0 : Nat} {x1 : Int} {f1 : List aV} {t3 : Option Nat} (h2 : h ar0 = cO 8 f1) (g4 : f1[0]? = some (vR t3)) (k : Rn d bc bs mX8_init 37 [some (vR (some ar0)), some (vI x1)] [vR (some n), vI x1, vR t3] (up h n (cO 6 [vR none, vR none, vI 0, vI 0, vI 0])) (n + 1) Q) : Rn d (bc + 1) (bs + 5) mX8_init 29 [some (vR (some ar0)), some (vI x1)] [] h n Q := by
  refine Rn_aload_n dX8_init_29 rfl rfl rfl ?_
  refine Rn_getfield (ci := 8) (k := 0) dX8_init_30 rfl in_8 (Nat.le_of_ble_eq_true rfl) wd_233 rfl h2 g4 ?_
  refine Rn_iload_n dX8_init_33 rfl rfl ?_
  refine Rn_new (ci := 6) (bc := bc) (bs := bs) (by omega) (by omega) dX8_init_34 rfl in_6 tyX6_ok nf_6 wd_230 wd_183 wd_125 (fs := [vR none, vR none, vI 0, vI 0, vI 0]) rfl ?_
  exact k
theorem BX8_init_37 {d bc bs bc1 bs1 : Nat} {h : aH} {n : Nat} {Q : aQ} {r0 q0 : Option Nat} {x1 s1 : Int} {aq2 : Nat} (k : Rn d bc1 bs1 mX6_init 0 [some (vR (some aq2))] [] h n (fun v h1 n1 => Rn (d + 1) bc bs mX8_init 41 [some (vR r0), some (vI x1)] (v.toList ++ [vR (some aq2), vI s1, vR q0]) h1 n1 Q)) : Rn (d + 1) (bc1 + bc) (bs1 + bs) mX8_init 37 [some (vR r0), some (vI x1)] [vR (some aq2), vI s1, vR q0] h n Q := by
  refine Rn_dup dX8_init_37 rfl ?_
  exact Rn_callI (avs := []) (st := [vR (some aq2), vI s1, vR q0]) (bc1 := bc1) (bs1 := bs1) (bc2 := bc) (bs2 := bs) fx_X6_init rfl rfl dX8_init_38 (Or.inr ⟨"BottledPost", List.mem_of_getElem? (i := 4) rfl⟩) wd_185 rfl (Nat.le_of_ble_eq_true rfl) (Nat.le_of_ble_eq_true rfl) (by omega) (by omega) (ls1 := [some (vR (some aq2))]) rfl k
theorem BX8_init_41 {d bc bs : Nat} {h : aH} {n : Nat} {Q : aQ} {r0 : Option Nat} {x1 s1 : Int} {aq0 aq2 : Nat} {w1 : List (Option Nat)} {f5 : List aV} (h2 : h aq0 = cQ 6 w1) (i3 : 0 ≤ s1) (j4 : s1 < w1.length) (h6 : h aq2 = cO 6 f5) (z7 : aq0 ≠ 0) (k : Rn d bc bs mX8_init 42 [some (vR r0), some (vI x1)] [] (up h aq0 (cQ 6 (w1.set (s1 : Int).toNat (some aq2)))) n Q) : Rn d (bc) (bs) mX8_init 41 [some (vR r0), some (vI x1)] [vR (some aq2), vI s1, vR (some aq0)] h n Q := by
  refine Rn_aastore (k := 6) (by decide) dX8_init_41 z7 h2 h6 i3 j4 ?_
  exact k
theorem BX8_init_42 {d bc bs : Nat} {h : aH} {n : Nat} {Q : aQ} {r0 : Option Nat} {x1 : Int} (b1 : -2147483648 ≤ x1 + 1 ∧ x1 + 1 < 2147483648) (k : Rn d bc bs mX8_init 20 [some (vR r0), some (vI (x1 + 1))] [] h n Q) : Rn d (bc) (bs) mX8_init 42 [some (vR r0), some (vI x1)] [] h n Q := by
  refine Rn_iinc dX8_init_42 rfl (Nat.le_of_ble_eq_true rfl) rfl rfl rfl ?_
  rw [w32_id b1.1 b1.2]
  refine Rn_goto (tgt := 20) dX8_init_45 rfl ?_
  exact k
theorem BX8_init_48 {d bc bs : Nat} {h : aH} {n : Nat} {Q : aQ} {r0 : Option Nat} {x1 : Int} (k : Q none h n) : Rn d (bc) (bs) mX8_init 48 [some (vR r0), some (vI x1)] [] h n Q := by
  exact Rn_return rfl dX8_init_48 k
theorem dX8_copyFrom_0 : decode cX8_copyFrom 0 = .ok (.iconst 0, 1) := by decide +kernel
theorem dX8_copyFrom_1 : decode cX8_copyFrom 1 = .ok (.istore_n 2, 1) := by decide +kernel
theorem dX8_copyFrom_2 : decode cX8_copyFrom 2 = .ok (.iload_n 2, 1) := by decide +kernel
theorem dX8_copyFrom_3 : decode cX8_copyFrom 3 = .ok (.aload_n 1, 1) := by decide +kernel
theorem dX8_copyFrom_4 : decode cX8_copyFrom 4 = .ok (.getfield 17, 3) := by decide +kernel
theorem dX8_copyFrom_7 : decode cX8_copyFrom 7 = .ok (.if_icmp .ge 37, 3) := by decide +kernel
theorem dX8_copyFrom_10 : decode cX8_copyFrom 10 = .ok (.aload_n 0, 1) := by decide +kernel
theorem dX8_copyFrom_11 : decode cX8_copyFrom 11 = .ok (.iload_n 2, 1) := by decide +kernel
theorem dX8_copyFrom_12 : decode cX8_copyFrom 12 = .ok (.invokevirtual 22, 3) := by decide +kernel
theorem dX8_copyFrom_15 : decode cX8_copyFrom 15 = .ok (.astore_n 3, 1) := by decide +kernel
theorem dX8_copyFrom_16 : decode cX8_copyFrom 16 = .ok (.aload_n 1, 1) := by decide +kernel
theorem dX8_copyFrom_17 : decode cX8_copyFrom 17 = .ok (.iload_n 2, 1) := by decide +kernel
theorem dX8_copyFrom_18 : decode cX8_copyFrom 18 = .ok (.invokevirtual 22, 3) := by decide +kernel
theorem dX8_copyFrom_21 : decode cX8_copyFrom 21 = .ok (.astore 4, 2) := by decide +kernel
theorem dX8_copyFrom_23 : decode cX8_copyFrom 23 = .ok (.aload_n 3, 1) := by decide +kernel
theorem dX8_copyFrom_24 : decode cX8_copyFrom 24 = .ok (.ifnull 14, 3) := by decide +kernel
theorem dX8_copyFrom_27 : decode cX8_copyFrom 27 = .ok (.aload 4, 2) := by decide +kernel
theorem dX8_copyFrom_29 : decode cX8_copyFrom 29 = .ok (.ifnull 9, 3) := by decide +kernel
theorem dX8_copyFrom_32 : decode cX8_copyFrom 32 = .ok (.aload_n 3, 1) := by decide +kernel
theorem dX8_copyFrom_33 : decode cX8_copyFrom 33 = .ok (.aload 4, 2) := by decide +kernel
theorem dX8_copyFrom_35 : decode cX8_copyFrom 35 = .ok (.invokevirtual 26, 3) := by decide +kernel
theorem dX8_copyFrom_38 : decode cX8_copyFrom 38 = .ok (.iinc 2 1, 3) := by decide +kernel
theorem dX8_copyFrom_41 : decode cX8_copyFrom 41 = .ok (.goto (-39), 3) := by decide +kernel
theorem dX8_copyFrom_44 : decode cX8_copyFrom 44 = .ok (.aload_n 0, 1) := by decide +kernel
theorem dX8_copyFrom_45 : decode cX8_copyFrom 45 = .ok (.aload_n 1, 1) := by decide +kernel
theorem dX8_copyFrom_46 : decode cX8_copyFrom 46 = .ok (.getfield 17, 3) := by decide +kernel
theorem dX8_copyFrom_49 : decode cX8_copyFrom 49 = .ok (.putfield 17, 3) := by decide +kernel
theorem dX8_copyFrom_52 : decode cX8_copyFrom 52 = .ok (.return_, 1) := by decide +kernel
theorem BX8_copyFrom_0 {d bc bs : Nat} {h : aH} {n : Nat} {Q : aQ} {r0 r1 : Option Nat} {l2 l3 l4 : Option aV} (k : Rn d bc bs mX8_copyFrom 2 [some (vR r0), some (vR r1), some (vI 0), l3, l4] [] h n Q) : Rn d (bc) (bs) mX8_copyFrom 0 [some (vR r0), some (vR r1), l2, l3, l4] [] h n Q := by
  refine Rn_iconst dX8_copyFrom_0 rfl ?_
  refine Rn_istore_n dX8_copyFrom_1 rfl (Nat.le_of_ble_eq_true rfl) rfl rfl ?_
  exact k
theorem BX8_copyFrom_2 {d bc bs : Nat} {h : aH} {n : Nat} {Q : aQ} {r0 : Option Nat} {ar1 : Nat} {x2 v3 : Int} {l3 l4 : Option aV} {f1 : List aV} (h2 : h ar1 = cO 8 f1) (g4 : f1[1]? = some (vI v3)) (kt : v3 ≤ x2 → Rn d bc bs mX8_copyFrom 44 [some (vR r0), some (vR (some ar1)), some (vI x2), l3, l4] [] h n Q) (kf : x2 < v3 → Rn d bc bs mX8_copyFrom 10 [some (vR r0), some (vR (some ar1)), some (vI x2), l3, l4] [] h n Q) : Rn d (bc) (bs) mX8_copyFrom 2 [some (vR r0), some (vR (some ar1)), some (vI x2), l3, l4] [] h n Q := by
  refine Rn_iload_n dX8_copyFrom_2 rfl rfl ?_
  refine Rn_aload_n dX8_copyFrom_3 rfl rfl rfl ?_
  refine Rn_getfield (ci := 8) (k := 1) dX8_copyFrom_4 rfl in_8 (Nat.le_of_ble_eq_true rfl) wd_234 rfl h2 g4 ?_
  refine Rn_icmpge (tgt := 44) dX8_copyFrom_7 rfl ?_ ?_
  · exact kt
  · exact kf
theorem BX8_copyFrom_10 {d bc bs : Nat} {h : aH} {n : Nat} {Q : aQ} {ar0 : Nat} {r1 : Option Nat} {x2 : Int} {l3 l4 : Option aV} {f1 : List aV} (h2 : h ar0 = cO 8 f1) (k : Rn d 0 0 mX8_seaOf 0 [some (vR (some ar0)), some (vI x2)] [] h n (fun v h1 n1 => Rn (d + 1) bc bs mX8_copyFrom 15 [some (vR (some ar0)), some (vR r1), some (vI x2), l3, l4] (v.toList ++ []) h1 n1 Q)) : Rn (d + 1) (bc) (bs) mX8_copyFrom 10 [some (vR (some ar0)), some (vR r1), some (vI x2), l3, l4] [] h n Q := by
  refine Rn_aload_n dX8_copyFrom_10 rfl rfl rfl ?_
  refine Rn_iload_n dX8_copyFrom_11 rfl rfl ?_
  exact Rn_callV (ci := 8) (avs := [vI x2]) (st := []) (bc1 := 0) (bs1 := 0) (bc2 := bc) (bs2 := bs) fx_X8_seaOf dX8_copyFrom_12 wd_793 wd_795 wd_29 rfl h2 rfl (Nat.le_of_ble_eq_true rfl) (Nat.le_of_ble_eq_true rfl) (by omega) (by omega) (ls1 := [some (vR (some ar0)), some (vI x2)]) rfl k
theorem BX8_copyFrom_15 {d bc bs : Nat} {h : aH} {n : Nat} {Q : aQ} {r0 q0 : Option Nat} {ar1 : Nat} {x2 : Int} {l3 l4 : Option aV} {f1 : List aV} (h2 : h ar1 = cO 8 f1) (k : Rn d 0 0 mX8_seaOf 0 [some (vR (some ar1)), some (vI x2)] [] h n (fun v h1 n1 => Rn (d + 1) bc bs mX8_copyFrom 21 [some (vR r0), some (vR (some ar1)), some (vI x2), some (vR q0), l4] (v.toList ++ []) h1 n1 Q)) : Rn (d + 1) (bc) (bs) mX8_copyFrom 15 [some (vR r0), some (vR (some ar1)), some (vI x2), l3, l4] [vR q0] h n Q := by
  refine Rn_astore_n dX8_copyFrom_15 rfl (Nat.le_of_ble_eq_true rfl) rfl rfl rfl ?_
  refine Rn_aload_n dX8_copyFrom_16 rfl rfl rfl ?_
  refine Rn_iload_n dX8_copyFrom_17 rfl rfl ?_
  exact Rn_callV (ci := 8) (avs := [vI x2]) (st := []) (bc1 := 0) (bs1 := 0) (bc2 := bc) (bs2 := bs) fx_X8_seaOf dX8_copyFrom_18 wd_793 wd_795 wd_29 rfl h2 rfl (Nat.le_of_ble_eq_true rfl) (Nat.le_of_ble_eq_true rfl) (by omega) (by omega) (ls1 := [some (vR (some ar1)), some (vI x2)]) rfl k
theorem BX8_copyFrom_21 {d bc bs : Nat} {h : aH} {n : Nat} {Q : aQ} {r0 r1 r3 q0 : Option Nat} {x2 : Int} {l4 : Option aV} (kt : r3 = none → Rn d bc bs mX8_copyFrom 38 [some (vR r0), some (vR r1), some (vI x2), some (vR r3), some (vR q0)] [] h n Q) (kf : ∀ a, r3 = some a → Rn d bc bs mX8_copyFrom 27 [some (vR r0), some (vR r1), some (vI x2), some (vR r3), some (vR q0)] [] h n Q) : Rn d (bc) (bs) mX8_copyFrom 21 [some (vR r0), some (vR r1), some (vI x2), some (vR r3), l4] [vR q0] h n Q := by
  refine Rn_astore dX8_copyFrom_21 (Nat.le_of_ble_eq_true rfl) rfl rfl rfl ?_
  refine Rn_aload_n dX8_copyFrom_23 rfl rfl rfl ?_
  refine Rn_ifnull (tgt := 38) dX8_copyFrom_24 rfl ?_ ?_
  · exact kt
  · exact kf
theorem BX8_copyFrom_27 {d bc bs : Nat} {h : aH} {n : Nat} {Q : aQ} {r0 r1 r3 r4 : Option Nat} {x2 : Int} (kt : r4 = none → Rn d bc bs mX8_copyFrom 38 [some (vR r0), some (vR r1), some (vI x2), some (vR r3), some (vR r4)] [] h n Q) (kf : ∀ a, r4 = some a → Rn d bc bs mX8_copyFrom 32 [some (vR r0), some (vR r1), some (vI x2), some (vR r3), some (vR r4)] [] h n Q) : Rn d (bc) (bs) mX8_copyFrom 27 [some (vR r0), some (vR r1), some (vI x2), some (vR r3), some (vR r4)] [] h n Q := by
  refine Rn_aload dX8_copyFrom_27 rfl rfl ?_
  refine Rn_ifnull (tgt := 38) dX8_copyFrom_29 rfl ?_ ?_
  · exact kt
  · exact kf
theorem BX8_copyFrom_32 {d bc bs : Nat} {h : aH} {n : Nat} {Q : aQ} {r0 r1 r4 : Option Nat} {x2 : Int} {ar3 : Nat} {f1 : List aV} (h2 : h ar3 = cO 6 f1) (k : Rn d 0 0 mX6_copyFrom 0 [some (vR (some ar3)), some (vR r4)] [] h n (fun v h1 n1 => Rn (d + 1) bc bs mX8_copyFrom 38 [some (vR r0), some (vR r1), some (vI x2), some (vR (some ar3)), some (vR r4)] (v.toList ++ []) h1 n1 Q)) : Rn (d + 1) (bc) (bs) mX8_copyFrom 32 [some (vR r0), some (vR r1), some (vI x2), some (vR (some ar3)), some (vR r4)] [] h n Q := by
  refine Rn_aload_n dX8_copyFrom_32 rfl rfl rfl ?_
  refine Rn_aload dX8_copyFrom_33 rfl rfl ?_
  exact Rn_callV (ci := 6) (avs := [vR r4]) (st := []) (bc1 := 0) (bs1 := 0) (bc2 := bc) (bs2 := bs) fx_X6_copyFrom dX8_copyFrom_35 wd_797 wd_798 wd_799 rfl h2 rfl (Nat.le_of_ble_eq_true rfl) (Nat.le_of_ble_eq_true rfl) (by omega) (by omega) (ls1 := [some (vR (some ar3)), some (vR r4)]) rfl k
theorem BX8_copyFrom_38 {d bc bs : Nat} {h : aH} {n : Nat} {Q : aQ} {r0 r1 r3 r4 : Option Nat} {x2 : Int} (b1 : -2147483648 ≤ x2 + 1 ∧ x2 + 1 < 2147483648) (k : Rn d bc bs mX8_copyFrom 2 [some (vR r0), some (vR r1), some (vI (x2 + 1)), some (vR r3), some (vR r4)] [] h n Q) : Rn d (bc) (bs) mX8_copyFrom 38 [some (vR r0), some (vR r1), some (vI x2), some (vR r3), some (vR r4)] [] h n Q := by
  refine Rn_iinc dX8_copyFrom_38 rfl (Nat.le_of_ble_eq_true rfl) rfl rfl rfl ?_
  rw [w32_id b1.1 b1.2]
  refine Rn_goto (tgt := 2) dX8_copyFrom_41 rfl ?_
  exact k
theorem BX8_copyFrom_44 {d bc bs : Nat} {h : aH} {n : Nat} {Q : aQ} {ar0 ar1 : Nat} {x2 v3 : Int} {l3 l4 : Option aV} {f1 f5 : List aV} (h2 : h ar1 = cO 8 f1) (g4 : f1[1]? = some (vI v3)) (h6 : h ar0 = cO 8 f5) (m7 : 1 < f5.length) (k : Rn d bc bs mX8_copyFrom 52 [some (vR (some ar0)), some (vR (some ar1)), some (vI x2), l3, l4] [] (up h ar0 (cO 8 (f5.set 1 (vI v3)))) n Q) : Rn d (bc) (bs) mX8_copyFrom 44 [some (vR (some ar0)), some (vR (some ar1)), some (vI x2), l3, l4] [] h n Q := by
  refine Rn_aload_n dX8_copyFrom_44 rfl rfl rfl ?_
  refine Rn_aload_n dX8_copyFrom_45 rfl rfl rfl ?_
  refine Rn_getfield (ci := 8) (k := 1) dX8_copyFrom_46 rfl in_8 (Nat.le_of_ble_eq_true rfl) wd_234 rfl h2 g4 ?_
  refine Rn_putfield (ci := 8) (k := 1) dX8_copyFrom_49 rfl in_8 tyX8_ok nmX8 (Nat.le_of_ble_eq_true rfl) wd_234 rfl (Or.inl rfl) trivial m7 h6 ?_
  exact k
theorem BX8_copyFrom_52 {d bc bs : Nat} {h : aH} {n : Nat} {Q : aQ} {r0 r1 : Option Nat} {x2 : Int} {l3 l4 : Option aV} (k : Q none h n) : Rn d (bc) (bs) mX8_copyFrom 52 [some (vR r0), some (vR r1), some (vI x2), l3, l4] [] h n Q := by
  exact Rn_return rfl dX8_copyFrom_52 k
theorem dX8_seaOf_0 : decode cX8_seaOf 0 = .ok (.iload_n 1, 1) := by decide +kernel
theorem dX8_seaOf_1 : decode cX8_seaOf 1 = .ok (.ifCond .lt 21, 3) := by decide +kernel
theorem dX8_seaOf_4 : decode cX8_seaOf 4 = .ok (.iload_n 1, 1) := by decide +kernel
theorem dX8_seaOf_5 : decode cX8_seaOf 5 = .ok (.aload_n 0, 1) := by decide +kernel
theorem dX8_seaOf_6 : decode cX8_seaOf 6 = .ok (.getfield 11, 3) := by decide +kernel
theorem dX8_seaOf_9 : decode cX8_seaOf 9 = .ok (.arraylength, 1) := by decide +kernel
theorem dX8_seaOf_10 : decode cX8_seaOf 10 = .ok (.if_icmp .ge 12, 3) := by decide +kernel
theorem dX8_seaOf_13 : decode cX8_seaOf 13 = .ok (.aload_n 0, 1) := by decide +kernel
theorem dX8_seaOf_14 : decode cX8_seaOf 14 = .ok (.getfield 11, 3) := by decide +kernel
theorem dX8_seaOf_17 : decode cX8_seaOf 17 = .ok (.iload_n 1, 1) := by decide +kernel
theorem dX8_seaOf_18 : decode cX8_seaOf 18 = .ok (.aaload, 1) := by decide +kernel
theorem dX8_seaOf_19 : decode cX8_seaOf 19 = .ok (.goto 4, 3) := by decide +kernel
theorem dX8_seaOf_22 : decode cX8_seaOf 22 = .ok (.aconst_null, 1) := by decide +kernel
theorem dX8_seaOf_23 : decode cX8_seaOf 23 = .ok (.areturn, 1) := by decide +kernel
theorem BX8_seaOf_0 {d bc bs : Nat} {h : aH} {n : Nat} {Q : aQ} {r0 : Option Nat} {x1 : Int} (kt : x1 < 0 → Rn d bc bs mX8_seaOf 22 [some (vR r0), some (vI x1)] [] h n Q) (kf : 0 ≤ x1 → Rn d bc bs mX8_seaOf 4 [some (vR r0), some (vI x1)] [] h n Q) : Rn d (bc) (bs) mX8_seaOf 0 [some (vR r0), some (vI x1)] [] h n Q := by
  refine Rn_iload_n dX8_seaOf_0 rfl rfl ?_
  refine Rn_iflt (tgt := 22) dX8_seaOf_1 rfl ?_ ?_
  · exact kt
  · exact kf
theorem BX8_seaOf_4 {d bc bs : Nat} {h : aH} {n : Nat} {Q : aQ} {ar0 at3 : Nat} {x1 : Int} {f1 : List aV} {w5 : List (Option Nat)} (h2 : h ar0 = cO 8 f1) (g4 : f1[0]? = some (vR (some at3))) (h6 : h at3 = cQ 6 w5) (y7 : w5.length < 2147483648) (z8 : at3 ≠ 0) (kt : (w5.length : Int) ≤ x1 → Rn d bc bs mX8_seaOf 22 [some (vR (some ar0)), some (vI x1)] [] h n Q) (kf : x1 < (w5.length : Int) → Rn d bc bs mX8_seaOf 13 [some (vR (some ar0)), some (vI x1)] [] h n Q) : Rn d (bc) (bs) mX8_seaOf 4 [some (vR (some ar0)), some (vI x1)] [] h n Q := by
  refine Rn_iload_n dX8_seaOf_4 rfl rfl ?_
  refine Rn_aload_n dX8_seaOf_5 rfl rfl rfl ?_
  refine Rn_getfield (ci := 8) (k := 0) dX8_seaOf_6 rfl in_8 (Nat.le_of_ble_eq_true rfl) wd_233 rfl h2 g4 ?_
  refine Rn_alenQ dX8_seaOf_9 z8 h6 y7 ?_
  refine Rn_icmpge (tgt := 22) dX8_seaOf_10 rfl ?_ ?_
  · exact kt
  · exact kf
theorem BX8_seaOf_13 {d bc bs : Nat} {h : aH} {n : Nat} {Q : aQ} {ar0 at3 : Nat} {x1 : Int} {f1 : List aV} {w5 : List (Option Nat)} {t7 : Option Nat} (h2 : h ar0 = cO 8 f1) (g4 : f1[0]? = some (vR (some at3))) (h6 : h at3 = cQ 6 w5) (i8 : 0 ≤ x1) (g9 : w5[(x1 : Int).toNat]? = some t7) (z10 : at3 ≠ 0) (k : Q (some (vR t7)) h n) : Rn d (bc) (bs) mX8_seaOf 13 [some (vR (some ar0)), some (vI x1)] [] h n Q := by
  refine Rn_aload_n dX8_seaOf_13 rfl rfl rfl ?_
  refine Rn_getfield (ci := 8) (k := 0) dX8_seaOf_14 rfl in_8 (Nat.le_of_ble_eq_true rfl) wd_233 rfl h2 g4 ?_
  refine Rn_iload_n dX8_seaOf_17 rfl rfl ?_
  refine Rn_aaload dX8_seaOf_18 z10 h6 i8 g9 ?_
  refine Rn_goto (tgt := 23) dX8_seaOf_19 rfl ?_
  exact Rn_areturn rfl rfl dX8_seaOf_23 k
theorem BX8_seaOf_22 {d bc bs : Nat} {h : aH} {n : Nat} {Q : aQ} {r0 : Option Nat} {x1 : Int} (k : Q (some (vR none)) h n) : Rn d (bc) (bs) mX8_seaOf 22 [some (vR r0), some (vI x1)] [] h n Q := by
  refine Rn_null dX8_seaOf_22 ?_
  exact Rn_areturn rfl rfl dX8_seaOf_23 k
theorem dX8_keep_0 : decode cX8_keep 0 = .ok (.aload_n 0, 1) := by decide +kernel
theorem dX8_keep_1 : decode cX8_keep 1 = .ok (.getfield 17, 3) := by decide +kernel
theorem dX8_keep_4 : decode cX8_keep 4 = .ok (.bipush 30, 2) := by decide +kernel
theorem dX8_keep_6 : decode cX8_keep 6 = .ok (.if_icmp .lt 7, 3) := by decide +kernel
theorem dX8_keep_9 : decode cX8_keep 9 = .ok (.aload_n 0, 1) := by decide +kernel
theorem dX8_keep_10 : decode cX8_keep 10 = .ok (.invokevirtual 30, 3) := by decide +kernel
theorem dX8_keep_13 : decode cX8_keep 13 = .ok (.aload_n 0, 1) := by decide +kernel
theorem dX8_keep_14 : decode cX8_keep 14 = .ok (.aload_n 0, 1) := by decide +kernel
theorem dX8_keep_15 : decode cX8_keep 15 = .ok (.getfield 17, 3) := by decide +kernel
theorem dX8_keep_18 : decode cX8_keep 18 = .ok (.invokevirtual 22, 3) := by decide +kernel
theorem dX8_keep_21 : decode cX8_keep 21 = .ok (.astore_n 2, 1) := by decide +kernel
theorem dX8_keep_22 : decode cX8_keep 22 = .ok (.aload_n 2, 1) := by decide +kernel
theorem dX8_keep_23 : decode cX8_keep 23 = .ok (.ifnonnull 4, 3) := by decide +kernel
theorem dX8_keep_26 : decode cX8_keep 26 = .ok (.return_, 1) := by decide +kernel
theorem dX8_keep_27 : decode cX8_keep 27 = .ok (.aload_n 2, 1) := by decide +kernel
theorem dX8_keep_28 : decode cX8_keep 28 = .ok (.aload_n 1, 1) := by decide +kernel
theorem dX8_keep_29 : decode cX8_keep 29 = .ok (.invokevirtual 26, 3) := by decide +kernel
theorem dX8_keep_32 : decode cX8_keep 32 = .ok (.aload_n 0, 1) := by decide +kernel
theorem dX8_keep_33 : decode cX8_keep 33 = .ok (.dup, 1) := by decide +kernel
theorem dX8_keep_34 : decode cX8_keep 34 = .ok (.getfield 17, 3) := by decide +kernel
theorem dX8_keep_37 : decode cX8_keep 37 = .ok (.iconst 1, 1) := by decide +kernel
theorem dX8_keep_38 : decode cX8_keep 38 = .ok (.iadd, 1) := by decide +kernel
theorem dX8_keep_39 : decode cX8_keep 39 = .ok (.putfield 17, 3) := by decide +kernel
theorem dX8_keep_42 : decode cX8_keep 42 = .ok (.return_, 1) := by decide +kernel
theorem BX8_keep_0 {d bc bs : Nat} {h : aH} {n : Nat} {Q : aQ} {ar0 : Nat} {r1 : Option Nat} {l2 : Option aV} {f1 : List aV} {v3 : Int} (h2 : h ar0 = cO 8 f1) (g4 : f1[1]? = some (vI v3)) (kt : v3 < 30 → Rn d bc bs mX8_keep 13 [some (vR (some ar0)), some (vR r1), l2] [] h n Q) (kf : 30 ≤ v3 → Rn d bc bs mX8_keep 9 [some (vR (some ar0)), some (vR r1), l2] [] h n Q) : Rn d (bc) (bs) mX8_keep 0 [some (vR (some ar0)), some (vR r1), l2] [] h n Q := by
  refine Rn_aload_n dX8_keep_0 rfl rfl rfl ?_
  refine Rn_getfield (ci := 8) (k := 1) dX8_keep_1 rfl in_8 (Nat.le_of_ble_eq_true rfl) wd_234 rfl h2 g4 ?_
  refine Rn_bipush dX8_keep_4 rfl ?_
  refine Rn_icmplt (tgt := 13) dX8_keep_6 rfl ?_ ?_
  · exact kt
  · exact kf
theorem BX8_keep_9 {d bc bs : Nat} {h : aH} {n : Nat} {Q : aQ} {ar0 : Nat} {r1 : Option Nat} {l2 : Option aV} {f1 : List aV} (h2 : h ar0 = cO 8 f1) (k : Rn d 0 0 mX8_forgetEldest 0 [some (vR (some ar0)), none, none] [] h n (fun v h1 n1 => Rn (d + 1) bc bs mX8_keep 13 [some (vR (some ar0)), some (vR r1), l2] (v.toList ++ []) h1 n1 Q)) : Rn (d + 1) (bc) (bs) mX8_keep 9 [some (vR (some ar0)), some (vR r1), l2] [] h n Q := by
  refine Rn_aload_n dX8_keep_9 rfl rfl rfl ?_
  exact Rn_callV (ci := 8) (avs := []) (st := []) (bc1 := 0) (bs1 := 0) (bc2 := bc) (bs2 := bs) fx_X8_forgetEldest dX8_keep_10 wd_789 wd_791 wd_28 rfl h2 rfl (Nat.le_of_ble_eq_true rfl) (Nat.le_of_ble_eq_true rfl) (by omega) (by omega) (ls1 := [some (vR (some ar0)), none, none]) rfl k
theorem BX8_keep_13 {d bc bs : Nat} {h : aH} {n : Nat} {Q : aQ} {ar0 : Nat} {r1 : Option Nat} {l2 : Option aV} {f1 : List aV} {v3 : Int} (h2 : h ar0 = cO 8 f1) (g4 : f1[1]? = some (vI v3)) (k : Rn d 0 0 mX8_seaOf 0 [some (vR (some ar0)), some (vI v3)] [] h n (fun v h1 n1 => Rn (d + 1) bc bs mX8_keep 21 [some (vR (some ar0)), some (vR r1), l2] (v.toList ++ []) h1 n1 Q)) : Rn (d + 1) (bc) (bs) mX8_keep 13 [some (vR (some ar0)), some (vR r1), l2] [] h n Q := by
  refine Rn_aload_n dX8_keep_13 rfl rfl rfl ?_
  refine Rn_aload_n dX8_keep_14 rfl rfl rfl ?_
  refine Rn_getfield (ci := 8) (k := 1) dX8_keep_15 rfl in_8 (Nat.le_of_ble_eq_true rfl) wd_234 rfl h2 g4 ?_
  exact Rn_callV (ci := 8) (avs := [vI v3]) (st := []) (bc1 := 0) (bs1 := 0) (bc2 := bc) (bs2 := bs) fx_X8_seaOf dX8_keep_18 wd_793 wd_795 wd_29 rfl h2 rfl (Nat.le_of_ble_eq_true rfl) (Nat.le_of_ble_eq_true rfl) (by omega) (by omega) (ls1 := [some (vR (some ar0)), some (vI v3)]) rfl k
theorem BX8_keep_21 {d bc bs : Nat} {h : aH} {n : Nat} {Q : aQ} {r0 r1 q0 : Option Nat} {l2 : Option aV} (kt : ∀ a, q0 = some a → Rn d bc bs mX8_keep 27 [some (vR r0), some (vR r1), some (vR q0)] [] h n Q) (kf : q0 = none → Rn d bc bs mX8_keep 26 [some (vR r0), some (vR r1), some (vR q0)] [] h n Q) : Rn d (bc) (bs) mX8_keep 21 [some (vR r0), some (vR r1), l2] [vR q0] h n Q := by
  refine Rn_astore_n dX8_keep_21 rfl (Nat.le_of_ble_eq_true rfl) rfl rfl rfl ?_
  refine Rn_aload_n dX8_keep_22 rfl rfl rfl ?_
  refine Rn_ifnonnull (tgt := 27) dX8_keep_23 rfl ?_ ?_
  · exact kt
  · exact kf
theorem BX8_keep_26 {d bc bs : Nat} {h : aH} {n : Nat} {Q : aQ} {r0 r1 r2 : Option Nat} (k : Q none h n) : Rn d (bc) (bs) mX8_keep 26 [some (vR r0), some (vR r1), some (vR r2)] [] h n Q := by
  exact Rn_return rfl dX8_keep_26 k
theorem BX8_keep_27 {d bc bs : Nat} {h : aH} {n : Nat} {Q : aQ} {r0 r1 : Option Nat} {ar2 : Nat} {f1 : List aV} (h2 : h ar2 = cO 6 f1) (k : Rn d 0 0 mX6_copyFrom 0 [some (vR (some ar2)), some (vR r1)] [] h n (fun v h1 n1 => Rn (d + 1) bc bs mX8_keep 32 [some (vR r0), some (vR r1), some (vR (some ar2))] (v.toList ++ []) h1 n1 Q)) : Rn (d + 1) (bc) (bs) mX8_keep 27 [some (vR r0), some (vR r1), some (vR (some ar2))] [] h n Q := by
  refine Rn_aload_n dX8_keep_27 rfl rfl rfl ?_
  refine Rn_aload_n dX8_keep_28 rfl rfl rfl ?_
  exact Rn_callV (ci := 6) (avs := [vR r1]) (st := []) (bc1 := 0) (bs1 := 0) (bc2 := bc) (bs2 := bs) fx_X6_copyFrom dX8_keep_29 wd_797 wd_798 wd_799 rfl h2 rfl (Nat.le_of_ble_eq_true rfl) (Nat.le_of_ble_eq_true rfl) (by omega) (by omega) (ls1 := [some (vR (some ar2)), some (vR r1)]) rfl k
theorem BX8_keep_32 {d bc bs : Nat} {h : aH} {n : Nat} {Q : aQ} {ar0 : Nat} {r1 r2 : Option Nat} {f1 : List aV} {v3 : Int} (h2 : h ar0 = cO 8 f1) (g4 : f1[1]? = some (vI v3)) (b5 : -2147483648 ≤ v3 + 1 ∧ v3 + 1 < 2147483648) (m6 : 1 < f1.length) (k : Rn d bc bs mX8_keep 42 [some (vR (some ar0)), some (vR r1), some (vR r2)] [] (up h ar0 (cO 8 (f1.set 1 (vI (v3 + 1))))) n Q) : Rn d (bc) (bs) mX8_keep 32 [some (vR (some ar0)), some (vR r1), some (vR r2)] [] h n Q := by
  refine Rn_aload_n dX8_keep_32 rfl rfl rfl ?_
  refine Rn_dup dX8_keep_33 rfl ?_
  refine Rn_getfield (ci := 8) (k := 1) dX8_keep_34 rfl in_8 (Nat.le_of_ble_eq_true rfl) wd_234 rfl h2 g4 ?_
  refine Rn_iconst dX8_keep_37 rfl ?_
  refine Rn_iadd dX8_keep_38 ?_
  rw [w32_id b5.1 b5.2]
  refine Rn_putfield (ci := 8) (k := 1) dX8_keep_39 rfl in_8 tyX8_ok nmX8 (Nat.le_of_ble_eq_true rfl) wd_234 rfl (Or.inl rfl) trivial m6 h2 ?_
  exact k
theorem BX8_keep_42 {d bc bs : Nat} {h : aH} {n : Nat} {Q : aQ} {r0 r1 r2 : Option Nat} (k : Q none h n) : Rn d (bc) (bs) mX8_keep 42 [some (vR r0), some (vR r1), some (vR r2)] [] h n Q := by
  exact Rn_return rfl dX8_keep_42 k
theorem dX8_forgetEldest_0 : decode cX8_forgetEldest 0 = .ok (.iconst 1, 1) := by decide +kernel
theorem dX8_forgetEldest_1 : decode cX8_forgetEldest 1 = .ok (.istore_n 1, 1) := by decide +kernel
theorem dX8_forgetEldest_2 : decode cX8_forgetEldest 2 = .ok (.iload_n 1, 1) := by decide +kernel
theorem dX8_forgetEldest_3 : decode cX8_forgetEldest 3 = .ok (.aload_n 0, 1) := by decide +kernel
theorem dX8_forgetEldest_4 : decode cX8_forgetEldest 4 = .ok (.getfield 11, 3) := by decide +kernel
theorem dX8_forgetEldest_7 : decode cX8_forgetEldest 7 = .ok (.arraylength, 1) := by decide +kernel
theorem dX8_forgetEldest_8 : decode cX8_forgetEldest 8 = .ok (.if_icmp .ge 39, 3) := by decide +kernel
theorem dX8_forgetEldest_11 : decode cX8_forgetEldest 11 = .ok (.aload_n 0, 1) := by decide +kernel
theorem dX8_forgetEldest_12 : decode cX8_forgetEldest 12 = .ok (.getfield 11, 3) := by decide +kernel
theorem dX8_forgetEldest_15 : decode cX8_forgetEldest 15 = .ok (.iload_n 1, 1) := by decide +kernel
theorem dX8_forgetEldest_16 : decode cX8_forgetEldest 16 = .ok (.iconst 1, 1) := by decide +kernel
theorem dX8_forgetEldest_17 : decode cX8_forgetEldest 17 = .ok (.isub, 1) := by decide +kernel
theorem dX8_forgetEldest_18 : decode cX8_forgetEldest 18 = .ok (.aaload, 1) := by decide +kernel
theorem dX8_forgetEldest_19 : decode cX8_forgetEldest 19 = .ok (.astore_n 2, 1) := by decide +kernel
theorem dX8_forgetEldest_20 : decode cX8_forgetEldest 20 = .ok (.aload_n 0, 1) := by decide +kernel
theorem dX8_forgetEldest_21 : decode cX8_forgetEldest 21 = .ok (.getfield 11, 3) := by decide +kernel
theorem dX8_forgetEldest_24 : decode cX8_forgetEldest 24 = .ok (.iload_n 1, 1) := by decide +kernel
theorem dX8_forgetEldest_25 : decode cX8_forgetEldest 25 = .ok (.iconst 1, 1) := by decide +kernel
theorem dX8_forgetEldest_26 : decode cX8_forgetEldest 26 = .ok (.isub, 1) := by decide +kernel
theorem dX8_forgetEldest_27 : decode cX8_forgetEldest 27 = .ok (.aload_n 0, 1) := by decide +kernel
theorem dX8_forgetEldest_28 : decode cX8_forgetEldest 28 = .ok (.getfield 11, 3) := by decide +kernel
theorem dX8_forgetEldest_31 : decode cX8_forgetEldest 31 = .ok (.iload_n 1, 1) := by decide +kernel
theorem dX8_forgetEldest_32 : decode cX8_forgetEldest 32 = .ok (.aaload, 1) := by decide +kernel
theorem dX8_forgetEldest_33 : decode cX8_forgetEldest 33 = .ok (.aastore, 1) := by decide +kernel
theorem dX8_forgetEldest_34 : decode cX8_forgetEldest 34 = .ok (.aload_n 0, 1) := by decide +kernel
theorem dX8_forgetEldest_35 : decode cX8_forgetEldest 35 = .ok (.getfield 11, 3) := by decide +kernel
theorem dX8_forgetEldest_38 : decode cX8_forgetEldest 38 = .ok (.iload_n 1, 1) := by decide +kernel
theorem dX8_forgetEldest_39 : decode cX8_forgetEldest 39 = .ok (.aload_n 2, 1) := by decide +kernel
theorem dX8_forgetEldest_40 : decode cX8_forgetEldest 40 = .ok (.aastore, 1) := by decide +kernel
theorem dX8_forgetEldest_41 : decode cX8_forgetEldest 41 = .ok (.iinc 1 1, 3) := by decide +kernel
theorem dX8_forgetEldest_44 : decode cX8_forgetEldest 44 = .ok (.goto (-42), 3) := by decide +kernel
theorem dX8_forgetEldest_47 : decode cX8_forgetEldest 47 = .ok (.aload_n 0, 1) := by decide +kernel
theorem dX8_forgetEldest_48 : decode cX8_forgetEldest 48 = .ok (.bipush 29, 2) := by decide +kernel
theorem dX8_forgetEldest_50 : decode cX8_forgetEldest 50 = .ok (.putfield 17, 3) := by decide +kernel
theorem dX8_forgetEldest_53 : decode cX8_forgetEldest 53 = .ok (.return_, 1) := by decide +kernel
theorem BX8_forgetEldest_0 {d bc bs : Nat} {h : aH} {n : Nat} {Q : aQ} {r0 : Option Nat} {l1 l2 : Option aV} (k : Rn d bc bs mX8_forgetEldest 2 [some (vR r0), some (vI 1), l2] [] h n Q) : Rn d (bc) (bs) mX8_forgetEldest 0 [some (vR r0), l1, l2] [] h n Q := by
  refine Rn_iconst dX8_forgetEldest_0 rfl ?_
  refine Rn_istore_n dX8_forgetEldest_1 rfl (Nat.le_of_ble_eq_true rfl) rfl rfl ?_
  exact k
theorem BX8_forgetEldest_2 {d bc bs : Nat} {h : aH} {n : Nat} {Q : aQ} {ar0 at3 : Nat} {x1 : Int} {l2 : Option aV} {f1 : List aV} {w5 : List (Option Nat)} (h2 : h ar0 = cO 8 f1) (g4 : f1[0]? = some (vR (some at3))) (h6 : h at3 = cQ 6 w5) (y7 : w5.length < 2147483648) (z8 : at3 ≠ 0) (kt : (w5.length : Int) ≤ x1 → Rn d bc bs mX8_forgetEldest 47 [some (vR (some ar0)), some (vI x1), l2] [] h n Q) (kf : x1 < (w5.length : Int) → Rn d bc bs mX8_forgetEldest 11 [some (vR (some ar0)), some (vI x1), l2] [] h n Q) : Rn d (bc) (bs) mX8_forgetEldest 2 [some (vR (some ar0)), some (vI x1), l2] [] h n Q := by
  refine Rn_iload_n dX8_forgetEldest_2 rfl rfl ?_
  refine Rn_aload_n dX8_forgetEldest_3 rfl rfl rfl ?_
  refine Rn_getfield (ci := 8) (k := 0) dX8_forgetEldest_4 rfl in_8 (Nat.le_of_ble_eq_true rfl) wd_233 rfl h2 g4 ?_
  refine Rn_alenQ dX8_forgetEldest_7 z8 h6 y7 ?_
  refine Rn_icmpge (tgt := 47) dX8_forgetEldest_8 rfl ?_ ?_
  · exact kt
  · exact kf
theorem BX8_forgetEldest_11 {d bc bs : Nat} {h : aH} {n : Nat} {Q : aQ} {ar0 at3 at12 : Nat} {x1 : Int} {l2 : Option aV} {f1 f16 : List aV} {w6 : List (Option Nat)} {t8 : Option Nat} (h2 : h ar0 = cO 8 f1) (g4 : f1[0]? = some (vR (some at3))) (b5 : -2147483648 ≤ x1 - 1 ∧ x1 - 1 < 2147483648) (h7 : h at3 = cQ 6 w6) (i9 : 0 ≤ x1 - 1) (g10 : w6[(x1 - 1 : Int).toNat]? = some t8) (z11 : at3 ≠ 0) (i13 : 0 ≤ x1) (g14 : w6[(x1 : Int).toNat]? = some (some at12)) (j15 : x1 - 1 < w6.length) (h17 : h at12 = cO 6 f16) (k : Rn d bc bs mX8_forgetEldest 34 [some (vR (some ar0)), some (vI x1), some (vR t8)] [] (up h at3 (cQ 6 (w6.set (x1 - 1 : Int).toNat (some at12)))) n Q) : Rn d (bc) (bs) mX8_forgetEldest 11 [some (vR (some ar0)), some (vI x1), l2] [] h n Q := by
  refine Rn_aload_n dX8_forgetEldest_11 rfl rfl rfl ?_
  refine Rn_getfield (ci := 8) (k := 0) dX8_forgetEldest_12 rfl in_8 (Nat.le_of_ble_eq_true rfl) wd_233 rfl h2 g4 ?_
  refine Rn_iload_n dX8_forgetEldest_15 rfl rfl ?_
  refine Rn_iconst dX8_forgetEldest_16 rfl ?_
  refine Rn_isub dX8_forgetEldest_17 ?_
  rw [w32_id b5.1 b5.2]
  refine Rn_aaload dX8_forgetEldest_18 z11 h7 i9 g10 ?_
  refine Rn_astore_n dX8_forgetEldest_19 rfl (Nat.le_of_ble_eq_true rfl) rfl rfl rfl ?_
  refine Rn_aload_n dX8_forgetEldest_20 rfl rfl rfl ?_
  refine Rn_getfield (ci := 8) (k := 0) dX8_forgetEldest_21 rfl in_8 (Nat.le_of_ble_eq_true rfl) wd_233 rfl h2 g4 ?_
  refine Rn_iload_n dX8_forgetEldest_24 rfl rfl ?_
  refine Rn_iconst dX8_forgetEldest_25 rfl ?_
  refine Rn_isub dX8_forgetEldest_26 ?_
  rw [w32_id b5.1 b5.2]
  refine Rn_aload_n dX8_forgetEldest_27 rfl rfl rfl ?_
  refine Rn_getfield (ci := 8) (k := 0) dX8_forgetEldest_28 rfl in_8 (Nat.le_of_ble_eq_true rfl) wd_233 rfl h2 g4 ?_
  refine Rn_iload_n dX8_forgetEldest_31 rfl rfl ?_
  refine Rn_aaload dX8_forgetEldest_32 z11 h7 i13 g14 ?_
  refine Rn_aastore (k := 6) (by decide) dX8_forgetEldest_33 z11 h7 h17 i9 j15 ?_
  exact k
theorem BX8_forgetEldest_34 {d bc bs : Nat} {h : aH} {n : Nat} {Q : aQ} {ar0 ar2 at3 : Nat} {x1 : Int} {f1 f9 : List aV} {w5 : List (Option Nat)} (h2 : h ar0 = cO 8 f1) (g4 : f1[0]? = some (vR (some at3))) (h6 : h at3 = cQ 6 w5) (i7 : 0 ≤ x1) (j8 : x1 < w5.length) (h10 : h ar2 = cO 6 f9) (z11 : at3 ≠ 0) (k : Rn d bc bs mX8_forgetEldest 41 [some (vR (some ar0)), some (vI x1), some (vR (some ar2))] [] (up h at3 (cQ 6 (w5.set (x1 : Int).toNat (some ar2)))) n Q) : Rn d (bc) (bs) mX8_forgetEldest 34 [some (vR (some ar0)), some (vI x1), some (vR (some ar2))] [] h n Q := by
  refine Rn_aload_n dX8_forgetEldest_34 rfl rfl rfl ?_
  refine Rn_getfield (ci := 8) (k := 0) dX8_forgetEldest_35 rfl in_8 (Nat.le_of_ble_eq_true rfl) wd_233 rfl h2 g4 ?_
  refine Rn_iload_n dX8_forgetEldest_38 rfl rfl ?_
  refine Rn_aload_n dX8_forgetEldest_39 rfl rfl rfl ?_
  refine Rn_aastore (k := 6) (by decide) dX8_forgetEldest_40 z11 h6 h10 i7 j8 ?_
  exact k
theorem BX8_forgetEldest_41 {d bc bs : Nat} {h : aH} {n : Nat} {Q : aQ} {r0 r2 : Option Nat} {x1 : Int} (b1 : -2147483648 ≤ x1 + 1 ∧ x1 + 1 < 2147483648) (k : Rn d bc bs mX8_forgetEldest 2 [some (vR r0), some (vI (x1 + 1)), some (vR r2)] [] h n Q) : Rn d (bc) (bs) mX8_forgetEldest 41 [some (vR r0), some (vI x1), some (vR r2)] [] h n Q := by
  refine Rn_iinc dX8_forgetEldest_41 rfl (Nat.le_of_ble_eq_true rfl) rfl rfl rfl ?_
  rw [w32_id b1.1 b1.2]
  refine Rn_goto (tgt := 2) dX8_forgetEldest_44 rfl ?_
  exact k
theorem BX8_forgetEldest_47 {d bc bs : Nat} {h : aH} {n : Nat} {Q : aQ} {ar0 : Nat} {x1 : Int} {l2 : Option aV} {f1 : List aV} (h2 : h ar0 = cO 8 f1) (m3 : 1 < f1.length) (k : Rn d bc bs mX8_forgetEldest 53 [some (vR (some ar0)), some (vI x1), l2] [] (up h ar0 (cO 8 (f1.set 1 (vI 29)))) n Q) : Rn d (bc) (bs) mX8_forgetEldest 47 [some (vR (some ar0)), some (vI x1), l2] [] h n Q := by
  refine Rn_aload_n dX8_forgetEldest_47 rfl rfl rfl ?_
  refine Rn_bipush dX8_forgetEldest_48 rfl ?_
  refine Rn_putfield (ci := 8) (k := 1) dX8_forgetEldest_50 rfl in_8 tyX8_ok nmX8 (Nat.le_of_ble_eq_true rfl) wd_234 rfl (Or.inl rfl) trivial m3 h2 ?_
  exact k
theorem BX8_forgetEldest_53 {d bc bs : Nat} {h : aH} {n : Nat} {Q : aQ} {r0 : Option Nat} {x1 : Int} {l2 : Option aV} (k : Q none h n) : Rn d (bc) (bs) mX8_forgetEldest 53 [some (vR r0), some (vI x1), l2] [] h n Q := by
  exact Rn_return rfl dX8_forgetEldest_53 k
theorem dX8_takeBack_0 : decode cX8_takeBack 0 = .ok (.aload_n 0, 1) := by decide +kernel
theorem dX8_takeBack_1 : decode cX8_takeBack 1 = .ok (.aload_n 0, 1) := by decide +kernel
theorem dX8_takeBack_2 : decode cX8_takeBack 2 = .ok (.getfield 17, 3) := by decide +kernel
theorem dX8_takeBack_5 : decode cX8_takeBack 5 = .ok (.iconst 1, 1) := by decide +kernel
theorem dX8_takeBack_6 : decode cX8_takeBack 6 = .ok (.isub, 1) := by decide +kernel
theorem dX8_takeBack_7 : decode cX8_takeBack 7 = .ok (.invokevirtual 22, 3) := by decide +kernel
theorem dX8_takeBack_10 : decode cX8_takeBack 10 = .ok (.astore_n 2, 1) := by decide +kernel
theorem dX8_takeBack_11 : decode cX8_takeBack 11 = .ok (.aload_n 2, 1) := by decide +kernel
theorem dX8_takeBack_12 : decode cX8_takeBack 12 = .ok (.ifnonnull 5, 3) := by decide +kernel
theorem dX8_takeBack_15 : decode cX8_takeBack 15 = .ok (.iconst (-1), 1) := by decide +kernel
theorem dX8_takeBack_16 : decode cX8_takeBack 16 = .ok (.ireturn, 1) := by decide +kernel
theorem dX8_takeBack_17 : decode cX8_takeBack 17 = .ok (.aload_n 0, 1) := by decide +kernel
theorem dX8_takeBack_18 : decode cX8_takeBack 18 = .ok (.dup, 1) := by decide +kernel
theorem dX8_takeBack_19 : decode cX8_takeBack 19 = .ok (.getfield 17, 3) := by decide +kernel
theorem dX8_takeBack_22 : decode cX8_takeBack 22 = .ok (.iconst 1, 1) := by decide +kernel
theorem dX8_takeBack_23 : decode cX8_takeBack 23 = .ok (.isub, 1) := by decide +kernel
theorem dX8_takeBack_24 : decode cX8_takeBack 24 = .ok (.putfield 17, 3) := by decide +kernel
theorem dX8_takeBack_27 : decode cX8_takeBack 27 = .ok (.aload_n 1, 1) := by decide +kernel
theorem dX8_takeBack_28 : decode cX8_takeBack 28 = .ok (.aload_n 2, 1) := by decide +kernel
theorem dX8_takeBack_29 : decode cX8_takeBack 29 = .ok (.invokevirtual 26, 3) := by decide +kernel
theorem dX8_takeBack_32 : decode cX8_takeBack 32 = .ok (.aload_n 0, 1) := by decide +kernel
theorem dX8_takeBack_33 : decode cX8_takeBack 33 = .ok (.getfield 17, 3) := by decide +kernel
theorem dX8_takeBack_36 : decode cX8_takeBack 36 = .ok (.ireturn, 1) := by decide +kernel
theorem BX8_takeBack_0 {d bc bs : Nat} {h : aH} {n : Nat} {Q : aQ} {ar0 : Nat} {r1 : Option Nat} {l2 : Option aV} {f1 : List aV} {v3 : Int} (h2 : h ar0 = cO 8 f1) (g4 : f1[1]? = some (vI v3)) (b5 : -2147483648 ≤ v3 - 1 ∧ v3 - 1 < 2147483648) (k : Rn d 0 0 mX8_seaOf 0 [some (vR (some ar0)), some (vI (v3 - 1))] [] h n (fun v h1 n1 => Rn (d + 1) bc bs mX8_takeBack 10 [some (vR (some ar0)), some (vR r1), l2] (v.toList ++ []) h1 n1 Q)) : Rn (d + 1) (bc) (bs) mX8_takeBack 0 [some (vR (some ar0)), some (vR r1), l2] [] h n Q := by
  refine Rn_aload_n dX8_takeBack_0 rfl rfl rfl ?_
  refine Rn_aload_n dX8_takeBack_1 rfl rfl rfl ?_
  refine Rn_getfield (ci := 8) (k := 1) dX8_takeBack_2 rfl in_8 (Nat.le_of_ble_eq_true rfl) wd_234 rfl h2 g4 ?_
  refine Rn_iconst dX8_takeBack_5 rfl ?_
  refine Rn_isub dX8_takeBack_6 ?_
  rw [w32_id b5.1 b5.2]
  exact Rn_callV (ci := 8) (avs := [vI (v3 - 1)]) (st := []) (bc1 := 0) (bs1 := 0) (bc2 := bc) (bs2 := bs) fx_X8_seaOf dX8_takeBack_7 wd_793 wd_795 wd_29 rfl h2 rfl (Nat.le_of_ble_eq_true rfl) (Nat.le_of_ble_eq_true rfl) (by omega) (by omega) (ls1 := [some (vR (some ar0)), some (vI (v3 - 1))]) rfl k
theorem BX8_takeBack_10 {d bc bs : Nat} {h : aH} {n : Nat} {Q : aQ} {r0 r1 q0 : Option Nat} {l2 : Option aV} (kt : ∀ a, q0 = some a → Rn d bc bs mX8_takeBack 17 [some (vR r0), some (vR r1), some (vR q0)] [] h n Q) (kf : q0 = none → Rn d bc bs mX8_takeBack 15 [some (vR r0), some (vR r1), some (vR q0)] [] h n Q) : Rn d (bc) (bs) mX8_takeBack 10 [some (vR r0), some (vR r1), l2] [vR q0] h n Q := by
  refine Rn_astore_n dX8_takeBack_10 rfl (Nat.le_of_ble_eq_true rfl) rfl rfl rfl ?_
  refine Rn_aload_n dX8_takeBack_11 rfl rfl rfl ?_
  refine Rn_ifnonnull (tgt := 17) dX8_takeBack_12 rfl ?_ ?_
  · exact kt
  · exact kf
theorem BX8_takeBack_15 {d bc bs : Nat} {h : aH} {n : Nat} {Q : aQ} {r0 r1 r2 : Option Nat} (k : Q (some (vI (-1))) h n) : Rn d (bc) (bs) mX8_takeBack 15 [some (vR r0), some (vR r1), some (vR r2)] [] h n Q := by
  refine Rn_iconst dX8_takeBack_15 rfl ?_
  exact Rn_ireturn rfl dX8_takeBack_16 k
theorem BX8_takeBack_17 {d bc bs : Nat} {h : aH} {n : Nat} {Q : aQ} {ar0 : Nat} {r1 r2 : Option Nat} {f1 : List aV} {v3 : Int} (h2 : h ar0 = cO 8 f1) (g4 : f1[1]? = some (vI v3)) (b5 : -2147483648 ≤ v3 - 1 ∧ v3 - 1 < 2147483648) (m6 : 1 < f1.length) (k : Rn d bc bs mX8_takeBack 27 [some (vR (some ar0)), some (vR r1), some (vR r2)] [] (up h ar0 (cO 8 (f1.set 1 (vI (v3 - 1))))) n Q) : Rn d (bc) (bs) mX8_takeBack 17 [some (vR (some ar0)), some (vR r1), some (vR r2)] [] h n Q := by
  refine Rn_aload_n dX8_takeBack_17 rfl rfl rfl ?_
  refine Rn_dup dX8_takeBack_18 rfl ?_
  refine Rn_getfield (ci := 8) (k := 1) dX8_takeBack_19 rfl in_8 (Nat.le_of_ble_eq_true rfl) wd_234 rfl h2 g4 ?_
  refine Rn_iconst dX8_takeBack_22 rfl ?_
  refine Rn_isub dX8_takeBack_23 ?_
  rw [w32_id b5.1 b5.2]
  refine Rn_putfield (ci := 8) (k := 1) dX8_takeBack_24 rfl in_8 tyX8_ok nmX8 (Nat.le_of_ble_eq_true rfl) wd_234 rfl (Or.inl rfl) trivial m6 h2 ?_
  exact k
theorem BX8_takeBack_27 {d bc bs : Nat} {h : aH} {n : Nat} {Q : aQ} {r0 r2 : Option Nat} {ar1 : Nat} {f1 : List aV} (h2 : h ar1 = cO 6 f1) (k : Rn d 0 0 mX6_copyFrom 0 [some (vR (some ar1)), some (vR r2)] [] h n (fun v h1 n1 => Rn (d + 1) bc bs mX8_takeBack 32 [some (vR r0), some (vR (some ar1)), some (vR r2)] (v.toList ++ []) h1 n1 Q)) : Rn (d + 1) (bc) (bs) mX8_takeBack 27 [some (vR r0), some (vR (some ar1)), some (vR r2)] [] h n Q := by
  refine Rn_aload_n dX8_takeBack_27 rfl rfl rfl ?_
  refine Rn_aload_n dX8_takeBack_28 rfl rfl rfl ?_
  exact Rn_callV (ci := 6) (avs := [vR r2]) (st := []) (bc1 := 0) (bs1 := 0) (bc2 := bc) (bs2 := bs) fx_X6_copyFrom dX8_takeBack_29 wd_797 wd_798 wd_799 rfl h2 rfl (Nat.le_of_ble_eq_true rfl) (Nat.le_of_ble_eq_true rfl) (by omega) (by omega) (ls1 := [some (vR (some ar1)), some (vR r2)]) rfl k
theorem BX8_takeBack_32 {d bc bs : Nat} {h : aH} {n : Nat} {Q : aQ} {ar0 : Nat} {r1 r2 : Option Nat} {f1 : List aV} {v3 : Int} (h2 : h ar0 = cO 8 f1) (g4 : f1[1]? = some (vI v3)) (k : Q (some (vI v3)) h n) : Rn d (bc) (bs) mX8_takeBack 32 [some (vR (some ar0)), some (vR r1), some (vR r2)] [] h n Q := by
  refine Rn_aload_n dX8_takeBack_32 rfl rfl rfl ?_
  refine Rn_getfield (ci := 8) (k := 1) dX8_takeBack_33 rfl in_8 (Nat.le_of_ble_eq_true rfl) wd_234 rfl h2 g4 ?_
  exact Rn_ireturn rfl dX8_takeBack_36 k
theorem dX10_init_0 : decode cX10_init 0 = .ok (.aload_n 0, 1) := by decide +kernel
theorem dX10_init_1 : decode cX10_init 1 = .ok (.invokespecial 1, 3) := by decide +kernel
theorem dX10_init_4 : decode cX10_init 4 = .ok (.aload_n 0, 1) := by decide +kernel
theorem dX10_init_5 : decode cX10_init 5 = .ok (.aload_n 1, 1) := by decide +kernel
theorem dX10_init_6 : decode cX10_init 6 = .ok (.putfield 7, 3) := by decide +kernel
theorem dX10_init_9 : decode cX10_init 9 = .ok (.aload_n 0, 1) := by decide +kernel
theorem dX10_init_10 : decode cX10_init 10 = .ok (.aload_n 2, 1) := by decide +kernel
theorem dX10_init_11 : decode cX10_init 11 = .ok (.putfield 13, 3) := by decide +kernel
theorem dX10_init_14 : decode cX10_init 14 = .ok (.aload_n 0, 1) := by decide +kernel
theorem dX10_init_15 : decode cX10_init 15 = .ok (.aload_n 3, 1) := by decide +kernel
theorem dX10_init_16 : decode cX10_init 16 = .ok (.putfield 16, 3) := by decide +kernel
theorem dX10_init_19 : decode cX10_init 19 = .ok (.return_, 1) := by decide +kernel
theorem BX10_init_0 {d bc bs : Nat} {h : aH} {n : Nat} {Q : aQ} {ar0 : Nat} {r1 r2 r3 : Option Nat} {f1 : List aV} (h2 : h ar0 = cO 10 f1) (m3 : 0 < f1.length) (k : Rn (d + 1) bc bs mX10_init 9 [some (vR (some ar0)), some (vR r1), some (vR r2), some (vR r3)] [] (up h ar0 (cO 10 (f1.set 0 (vR r1)))) n Q) : Rn (d + 1) (bc) (bs) mX10_init 0 [some (vR (some ar0)), some (vR r1), some (vR r2), some (vR r3)] [] h n Q := by
  refine Rn_aload_n dX10_init_0 rfl rfl rfl ?_
  refine Rn_objInit dX10_init_1 wd_747 wd_149 wd_150 (Nat.le_of_ble_eq_true rfl) ?_
  refine Rn_aload_n dX10_init_4 rfl rfl rfl ?_
  refine Rn_aload_n dX10_init_5 rfl rfl rfl ?_
  refine Rn_putfield (ci := 10) (k := 0) dX10_init_6 rfl in_10 tyX10_ok nmX10 (Nat.le_of_ble_eq_true rfl) wd_748 rfl (Or.inr ⟨rfl, rfl⟩) trivial m3 h2 ?_
  exact k
theorem BX10_init_9 {d bc bs : Nat} {h : aH} {n : Nat} {Q : aQ} {ar0 : Nat} {r1 r2 r3 : Option Nat} {f1 : List aV} (h2 : h ar0 = cO 10 f1) (m3 : 1 < f1.length) (k : Rn d bc bs mX10_init 14 [some (vR (some ar0)), some (vR r1), some (vR r2), some (vR r3)] [] (up h ar0 (cO 10 (f1.set 1 (vR r2)))) n Q) : Rn d (bc) (bs) mX10_init 9 [some (vR (some ar0)), some (vR r1), some (vR r2), some (vR r3)] [] h n Q := by
  refine Rn_aload_n dX10_init_9 rfl rfl rfl ?_
  refine Rn_aload_n dX10_init_10 rfl rfl rfl ?_
  refine Rn_putfield (ci := 10) (k := 1) dX10_init_11 rfl in_10 tyX10_ok nmX10 (Nat.le_of_ble_eq_true rfl) wd_749 rfl (Or.inr ⟨rfl, rfl⟩) trivial m3 h2 ?_
  exact k
theorem BX10_init_14 {d bc bs : Nat} {h : aH} {n : Nat} {Q : aQ} {ar0 : Nat} {r1 r2 r3 : Option Nat} {f1 : List aV} (h2 : h ar0 = cO 10 f1) (m3 : 2 < f1.length) (k : Rn d bc bs mX10_init 19 [some (vR (some ar0)), some (vR r1), some (vR r2), some (vR r3)] [] (up h ar0 (cO 10 (f1.set 2 (vR r3)))) n Q) : Rn d (bc) (bs) mX10_init 14 [some (vR (some ar0)), some (vR r1), some (vR r2), some (vR r3)] [] h n Q := by
  refine Rn_aload_n dX10_init_14 rfl rfl rfl ?_
  refine Rn_aload_n dX10_init_15 rfl rfl rfl ?_
  refine Rn_putfield (ci := 10) (k := 2) dX10_init_16 rfl in_10 tyX10_ok nmX10 (Nat.le_of_ble_eq_true rfl) wd_751 rfl (Or.inr ⟨rfl, rfl⟩) trivial m3 h2 ?_
  exact k
theorem BX10_init_19 {d bc bs : Nat} {h : aH} {n : Nat} {Q : aQ} {r0 r1 r2 r3 : Option Nat} (k : Q none h n) : Rn d (bc) (bs) mX10_init 19 [some (vR r0), some (vR r1), some (vR r2), some (vR r3)] [] h n Q := by
  exact Rn_return rfl dX10_init_19 k
theorem dX10_countClauses_0 : decode cX10_countClauses 0 = .ok (.aload_n 0, 1) := by decide +kernel
theorem dX10_countClauses_1 : decode cX10_countClauses 1 = .ok (.getfield 7, 3) := by decide +kernel
theorem dX10_countClauses_4 : decode cX10_countClauses 4 = .ok (.arraylength, 1) := by decide +kernel
theorem dX10_countClauses_5 : decode cX10_countClauses 5 = .ok (.iconst 4, 1) := by decide +kernel
theorem dX10_countClauses_6 : decode cX10_countClauses 6 = .ok (.idiv, 1) := by decide +kernel
theorem dX10_countClauses_7 : decode cX10_countClauses 7 = .ok (.ireturn, 1) := by decide +kernel
theorem BX10_countClauses_0 {d bc bs : Nat} {h : aH} {n : Nat} {Q : aQ} {ar0 at3 : Nat} {f1 : List aV} {w5 : List Int} (h2 : h ar0 = cO 10 f1) (g4 : f1[0]? = some (vR (some at3))) (h6 : h at3 = cI w5) (y7 : w5.length < 2147483648) (z8 : at3 ≠ 0) (b9 : 0 ≤ (w5.length : Int)) (b10 : -2147483648 ≤ (w5.length : Int) / 4 ∧ (w5.length : Int) / 4 < 2147483648) (k : Q (some (vI ((w5.length : Int) / 4))) h n) : Rn d (bc) (bs) mX10_countClauses 0 [some (vR (some ar0))] [] h n Q := by
  refine Rn_aload_n dX10_countClauses_0 rfl rfl rfl ?_
  refine Rn_getfield (ci := 10) (k := 0) dX10_countClauses_1 rfl in_10 (Nat.le_of_ble_eq_true rfl) wd_748 rfl h2 g4 ?_
  refine Rn_alenI dX10_countClauses_4 z8 h6 y7 ?_
  refine Rn_iconst dX10_countClauses_5 rfl ?_
  refine Rn_idiv dX10_countClauses_6 (by decide) ?_
  rw [Int.tdiv_eq_ediv_of_nonneg b9]
  rw [w32_id b10.1 b10.2]
  exact Rn_ireturn rfl dX10_countClauses_7 k
theorem dX10_part_0 : decode cX10_part 0 = .ok (.aload_n 0, 1) := by decide +kernel
theorem dX10_part_1 : decode cX10_part 1 = .ok (.getfield 7, 3) := by decide +kernel
theorem dX10_part_4 : decode cX10_part 4 = .ok (.iload_n 1, 1) := by decide +kernel
theorem dX10_part_5 : decode cX10_part 5 = .ok (.iconst 4, 1) := by decide +kernel
theorem dX10_part_6 : decode cX10_part 6 = .ok (.imul, 1) := by decide +kernel
theorem dX10_part_7 : decode cX10_part 7 = .ok (.iload_n 2, 1) := by decide +kernel
theorem dX10_part_8 : decode cX10_part 8 = .ok (.iadd, 1) := by decide +kernel
theorem dX10_part_9 : decode cX10_part 9 = .ok (.invokestatic 19, 3) := by decide +kernel
theorem dX10_part_12 : decode cX10_part 12 = .ok (.ireturn, 1) := by decide +kernel
theorem BX10_part_0 {d bc bs : Nat} {h : aH} {n : Nat} {Q : aQ} {ar0 : Nat} {x1 x2 : Int} {f1 : List aV} {t3 : Option Nat} (h2 : h ar0 = cO 10 f1) (g4 : f1[0]? = some (vR t3)) (b5 : -2147483648 ≤ x1 * 4 ∧ x1 * 4 < 2147483648) (b6 : -2147483648 ≤ (x1 * 4) + x2 ∧ (x1 * 4) + x2 < 2147483648) (k : Rn d 0 0 mX12_cell 0 [some (vR t3), some (vI ((x1 * 4) + x2))] [] h n (fun v h1 n1 => Rn (d + 1) bc bs mX10_part 12 [some (vR (some ar0)), some (vI x1), some (vI x2)] (v.toList ++ []) h1 n1 Q)) : Rn (d + 1) (bc) (bs) mX10_part 0 [some (vR (some ar0)), some (vI x1), some (vI x2)] [] h n Q := by
  refine Rn_aload_n dX10_part_0 rfl rfl rfl ?_
  refine Rn_getfield (ci := 10) (k := 0) dX10_part_1 rfl in_10 (Nat.le_of_ble_eq_true rfl) wd_748 rfl h2 g4 ?_
  refine Rn_iload_n dX10_part_4 rfl rfl ?_
  refine Rn_iconst dX10_part_5 rfl ?_
  refine Rn_imul dX10_part_6 ?_
  rw [w32_id b5.1 b5.2]
  refine Rn_iload_n dX10_part_7 rfl rfl ?_
  refine Rn_iadd dX10_part_8 ?_
  rw [w32_id b6.1 b6.2]
  exact Rn_callS (avs := [vR t3, vI ((x1 * 4) + x2)]) (st := []) (bc1 := 0) (bs1 := 0) (bc2 := bc) (bs2 := bs) fx_X12_cell dX10_part_9 (Or.inr ⟨"BottledPost", List.mem_of_getElem? (i := 19) rfl⟩) wd_967 rfl (Nat.le_of_ble_eq_true rfl) (Nat.le_of_ble_eq_true rfl) (by omega) (by omega) (ls1 := [some (vR t3), some (vI ((x1 * 4) + x2))]) rfl k
theorem BX10_part_12 {d bc bs : Nat} {h : aH} {n : Nat} {Q : aQ} {r0 : Option Nat} {x1 x2 s0 : Int} (k : Q (some (vI s0)) h n) : Rn d (bc) (bs) mX10_part 12 [some (vR r0), some (vI x1), some (vI x2)] [vI s0] h n Q := by
  exact Rn_ireturn rfl dX10_part_12 k
theorem dX11_init_0 : decode cX11_init 0 = .ok (.aload_n 0, 1) := by decide +kernel
theorem dX11_init_1 : decode cX11_init 1 = .ok (.invokespecial 3, 3) := by decide +kernel
theorem dX11_init_4 : decode cX11_init 4 = .ok (.aload_n 0, 1) := by decide +kernel
theorem dX11_init_5 : decode cX11_init 5 = .ok (.new 9, 3) := by decide +kernel
theorem dX11_init_8 : decode cX11_init 8 = .ok (.dup, 1) := by decide +kernel
theorem dX11_init_9 : decode cX11_init 9 = .ok (.invokespecial 11, 3) := by decide +kernel
theorem dX11_init_12 : decode cX11_init 12 = .ok (.putfield 12, 3) := by decide +kernel
theorem dX11_init_15 : decode cX11_init 15 = .ok (.aload_n 0, 1) := by decide +kernel
theorem dX11_init_16 : decode cX11_init 16 = .ok (.new 18, 3) := by decide +kernel
theorem dX11_init_19 : decode cX11_init 19 = .ok (.dup, 1) := by decide +kernel
theorem dX11_init_20 : decode cX11_init 20 = .ok (.invokespecial 20, 3) := by decide +kernel
theorem dX11_init_23 : decode cX11_init 23 = .ok (.putfield 21, 3) := by decide +kernel
theorem dX11_init_26 : decode cX11_init 26 = .ok (.aload_n 0, 1) := by decide +kernel
theorem dX11_init_27 : decode cX11_init 27 = .ok (.new 25, 3) := by decide +kernel
theorem dX11_init_30 : decode cX11_init 30 = .ok (.dup, 1) := by decide +kernel
theorem dX11_init_31 : decode cX11_init 31 = .ok (.invokespecial 27, 3) := by decide +kernel
theorem dX11_init_34 : decode cX11_init 34 = .ok (.putfield 28, 3) := by decide +kernel
theorem dX11_init_37 : decode cX11_init 37 = .ok (.aload_n 0, 1) := by decide +kernel
theorem dX11_init_38 : decode cX11_init 38 = .ok (.new 32, 3) := by decide +kernel
theorem dX11_init_41 : decode cX11_init 41 = .ok (.dup, 1) := by decide +kernel
theorem dX11_init_42 : decode cX11_init 42 = .ok (.invokespecial 34, 3) := by decide +kernel
theorem dX11_init_45 : decode cX11_init 45 = .ok (.putfield 35, 3) := by decide +kernel
theorem dX11_init_48 : decode cX11_init 48 = .ok (.aload_n 0, 1) := by decide +kernel
theorem dX11_init_49 : decode cX11_init 49 = .ok (.iconst 4, 1) := by decide +kernel
theorem dX11_init_50 : decode cX11_init 50 = .ok (.anewarray 39, 3) := by decide +kernel
theorem dX11_init_53 : decode cX11_init 53 = .ok (.putfield 41, 3) := by decide +kernel
theorem dX11_init_56 : decode cX11_init 56 = .ok (.aload_n 0, 1) := by decide +kernel
theorem dX11_init_57 : decode cX11_init 57 = .ok (.iconst 0, 1) := by decide +kernel
theorem dX11_init_58 : decode cX11_init 58 = .ok (.putfield 45, 3) := by decide +kernel
theorem dX11_init_61 : decode cX11_init 61 = .ok (.aload_n 0, 1) := by decide +kernel
theorem dX11_init_62 : decode cX11_init 62 = .ok (.iconst (-1), 1) := by decide +kernel
theorem dX11_init_63 : decode cX11_init 63 = .ok (.putfield 49, 3) := by decide +kernel
theorem dX11_init_66 : decode cX11_init 66 = .ok (.return_, 1) := by decide +kernel
theorem BX11_init_0 {d bc bs : Nat} {h : aH} {n : Nat} {Q : aQ} {ar0 : Nat} (k : Rn (d + 1) bc bs mX11_init 8 [some (vR (some ar0))] [vR (some n), vR (some ar0)] (up h n (cO 7 [vR none, vR none, vR none, vI 0])) (n + 1) Q) : Rn (d + 1) (bc + 1) (bs + 4) mX11_init 0 [some (vR (some ar0))] [] h n Q := by
  refine Rn_aload_n dX11_init_0 rfl rfl rfl ?_
  refine Rn_objInit dX11_init_1 wd_156 wd_149 wd_150 (Nat.le_of_ble_eq_true rfl) ?_
  refine Rn_aload_n dX11_init_4 rfl rfl rfl ?_
  refine Rn_new (ci := 7) (bc := bc) (bs := bs) (by omega) (by omega) dX11_init_5 rfl in_7 tyX7_ok nf_7 wd_157 wd_158 wd_124 (fs := [vR none, vR none, vR none, vI 0]) rfl ?_
  exact k
theorem BX11_init_8 {d bc bs bc1 bs1 : Nat} {h : aH} {n : Nat} {Q : aQ} {r0 q0 : Option Nat} {aq1 : Nat} (k : Rn d bc1 bs1 mX7_init 0 [some (vR (some aq1)), none] [] h n (fun v h1 n1 => Rn (d + 1) bc bs mX11_init 12 [some (vR r0)] (v.toList ++ [vR (some aq1), vR q0]) h1 n1 Q)) : Rn (d + 1) (bc1 + bc) (bs1 + bs) mX11_init 8 [some (vR r0)] [vR (some aq1), vR q0] h n Q := by
  refine Rn_dup dX11_init_8 rfl ?_
  exact Rn_callI (avs := []) (st := [vR (some aq1), vR q0]) (bc1 := bc1) (bs1 := bs1) (bc2 := bc) (bs2 := bs) fx_X7_init rfl rfl dX11_init_9 (Or.inl wd_159) wd_160 rfl (Nat.le_of_ble_eq_true rfl) (Nat.le_of_ble_eq_true rfl) (by omega) (by omega) (ls1 := [some (vR (some aq1)), none]) rfl k
theorem BX11_init_12 {d bc bs : Nat} {h : aH} {n : Nat} {Q : aQ} {r0 q1 : Option Nat} {aq0 : Nat} {f1 : List aV} (h2 : h aq0 = cO 11 f1) (m3 : 0 < f1.length) (k : Rn d bc bs mX11_init 15 [some (vR r0)] [] (up h aq0 (cO 11 (f1.set 0 (vR q1)))) n Q) : Rn d (bc) (bs) mX11_init 12 [some (vR r0)] [vR q1, vR (some aq0)] h n Q := by
  refine Rn_putfield (ci := 11) (k := 0) dX11_init_12 rfl in_11 tyX11_ok nmX11 (Nat.le_of_ble_eq_true rfl) wd_292 rfl (Or.inr ⟨rfl, rfl⟩) trivial m3 h2 ?_
  exact k
theorem BX11_init_15 {d bc bs : Nat} {h : aH} {n : Nat} {Q : aQ} {r0 : Option Nat} (k : Rn d bc bs mX11_init 19 [some (vR r0)] [vR (some n), vR r0] (up h n (cO 6 [vR none, vR none, vI 0, vI 0, vI 0])) (n + 1) Q) : Rn d (bc + 1) (bs + 5) mX11_init 15 [some (vR r0)] [] h n Q := by
  refine Rn_aload_n dX11_init_15 rfl rfl rfl ?_
  refine Rn_new (ci := 6) (bc := bc) (bs := bs) (by omega) (by omega) dX11_init_16 rfl in_6 tyX6_ok nf_6 wd_182 wd_183 wd_125 (fs := [vR none, vR none, vI 0, vI 0, vI 0]) rfl ?_
  exact k
theorem BX11_init_19 {d bc bs bc1 bs1 : Nat} {h : aH} {n : Nat} {Q : aQ} {r0 q0 : Option Nat} {aq1 : Nat} (k : Rn d bc1 bs1 mX6_init 0 [some (vR (some aq1))] [] h n (fun v h1 n1 => Rn (d + 1) bc bs mX11_init 23 [some (vR r0)] (v.toList ++ [vR (some aq1), vR q0]) h1 n1 Q)) : Rn (d + 1) (bc1 + bc) (bs1 + bs) mX11_init 19 [some (vR r0)] [vR (some aq1), vR q0] h n Q := by
  refine Rn_dup dX11_init_19 rfl ?_
  exact Rn_callI (avs := []) (st := [vR (some aq1), vR q0]) (bc1 := bc1) (bs1 := bs1) (bc2 := bc) (bs2 := bs) fx_X6_init rfl rfl dX11_init_20 (Or.inr ⟨"BottledPost", List.mem_of_getElem? (i := 2) rfl⟩) wd_185 rfl (Nat.le_of_ble_eq_true rfl) (Nat.le_of_ble_eq_true rfl) (by omega) (by omega) (ls1 := [some (vR (some aq1))]) rfl k
theorem BX11_init_23 {d bc bs : Nat} {h : aH} {n : Nat} {Q : aQ} {r0 q1 : Option Nat} {aq0 : Nat} {f1 : List aV} (h2 : h aq0 = cO 11 f1) (m3 : 1 < f1.length) (k : Rn d bc bs mX11_init 26 [some (vR r0)] [] (up h aq0 (cO 11 (f1.set 1 (vR q1)))) n Q) : Rn d (bc) (bs) mX11_init 23 [some (vR r0)] [vR q1, vR (some aq0)] h n Q := by
  refine Rn_putfield (ci := 11) (k := 1) dX11_init_23 rfl in_11 tyX11_ok nmX11 (Nat.le_of_ble_eq_true rfl) wd_294 rfl (Or.inr ⟨rfl, rfl⟩) trivial m3 h2 ?_
  exact k
theorem BX11_init_26 {d bc bs : Nat} {h : aH} {n : Nat} {Q : aQ} {r0 : Option Nat} (k : Rn d bc bs mX11_init 30 [some (vR r0)] [vR (some n), vR r0] (up h n (cO 8 [vR none, vI 0])) (n + 1) Q) : Rn d (bc + 1) (bs + 2) mX11_init 26 [some (vR r0)] [] h n Q := by
  refine Rn_aload_n dX11_init_26 rfl rfl rfl ?_
  refine Rn_new (ci := 8) (bc := bc) (bs := bs) (by omega) (by omega) dX11_init_27 rfl in_8 tyX8_ok nf_8 wd_224 wd_225 wd_127 (fs := [vR none, vI 0]) rfl ?_
  exact k
theorem BX11_init_30 {d bc bs bc1 bs1 : Nat} {h : aH} {n : Nat} {Q : aQ} {r0 q0 : Option Nat} {aq1 : Nat} (k : Rn d bc1 bs1 mX8_init 0 [some (vR (some aq1)), none] [] h n (fun v h1 n1 => Rn (d + 1) bc bs mX11_init 34 [some (vR r0)] (v.toList ++ [vR (some aq1), vR q0]) h1 n1 Q)) : Rn (d + 1) (bc1 + bc) (bs1 + bs) mX11_init 30 [some (vR r0)] [vR (some aq1), vR q0] h n Q := by
  refine Rn_dup dX11_init_30 rfl ?_
  exact Rn_callI (avs := []) (st := [vR (some aq1), vR q0]) (bc1 := bc1) (bs1 := bs1) (bc2 := bc) (bs2 := bs) fx_X8_init rfl rfl dX11_init_31 (Or.inl wd_226) wd_227 rfl (Nat.le_of_ble_eq_true rfl) (Nat.le_of_ble_eq_true rfl) (by omega) (by omega) (ls1 := [some (vR (some aq1)), none]) rfl k
theorem BX11_init_34 {d bc bs : Nat} {h : aH} {n : Nat} {Q : aQ} {r0 q1 : Option Nat} {aq0 : Nat} {f1 : List aV} (h2 : h aq0 = cO 11 f1) (m3 : 2 < f1.length) (k : Rn d bc bs mX11_init 37 [some (vR r0)] [] (up h aq0 (cO 11 (f1.set 2 (vR q1)))) n Q) : Rn d (bc) (bs) mX11_init 34 [some (vR r0)] [vR q1, vR (some aq0)] h n Q := by
  refine Rn_putfield (ci := 11) (k := 2) dX11_init_34 rfl in_11 tyX11_ok nmX11 (Nat.le_of_ble_eq_true rfl) wd_296 rfl (Or.inr ⟨rfl, rfl⟩) trivial m3 h2 ?_
  exact k
theorem BX11_init_37 {d bc bs : Nat} {h : aH} {n : Nat} {Q : aQ} {r0 : Option Nat} (k : Rn d bc bs mX11_init 41 [some (vR r0)] [vR (some n), vR r0] (up h n (cO 5 [vR none, vR none, vR none, vR none, vR none, vR none, vR none, vI 0, vI 0, vI 0, vI 0, vI 0])) (n + 1) Q) : Rn d (bc + 1) (bs + 12) mX11_init 37 [some (vR r0)] [] h n Q := by
  refine Rn_aload_n dX11_init_37 rfl rfl rfl ?_
  refine Rn_new (ci := 5) (bc := bc) (bs := bs) (by omega) (by omega) dX11_init_38 rfl in_5 tyX5_ok nf_5 wd_241 wd_242 wd_128 (fs := [vR none, vR none, vR none, vR none, vR none, vR none, vR none, vI 0, vI 0, vI 0, vI 0, vI 0]) rfl ?_
  exact k
theorem BX11_init_41 {d bc bs bc1 bs1 : Nat} {h : aH} {n : Nat} {Q : aQ} {r0 q0 : Option Nat} {aq1 : Nat} (k : Rn d bc1 bs1 mX5_init 0 [some (vR (some aq1))] [] h n (fun v h1 n1 => Rn (d + 1) bc bs mX11_init 45 [some (vR r0)] (v.toList ++ [vR (some aq1), vR q0]) h1 n1 Q)) : Rn (d + 1) (bc1 + bc) (bs1 + bs) mX11_init 41 [some (vR r0)] [vR (some aq1), vR q0] h n Q := by
  refine Rn_dup dX11_init_41 rfl ?_
  exact Rn_callI (avs := []) (st := [vR (some aq1), vR q0]) (bc1 := bc1) (bs1 := bs1) (bc2 := bc) (bs2 := bs) fx_X5_init rfl rfl dX11_init_42 (Or.inr ⟨"BottledPost", List.mem_of_getElem? (i := 5) rfl⟩) wd_244 rfl (Nat.le_of_ble_eq_true rfl) (Nat.le_of_ble_eq_true rfl) (by omega) (by omega) (ls1 := [some (vR (some aq1))]) rfl k
theorem BX11_init_45 {d bc bs : Nat} {h : aH} {n : Nat} {Q : aQ} {r0 q1 : Option Nat} {aq0 : Nat} {f1 : List aV} (h2 : h aq0 = cO 11 f1) (m3 : 3 < f1.length) (k : Rn d bc bs mX11_init 48 [some (vR r0)] [] (up h aq0 (cO 11 (f1.set 3 (vR q1)))) n Q) : Rn d (bc) (bs) mX11_init 45 [some (vR r0)] [vR q1, vR (some aq0)] h n Q := by
  refine Rn_putfield (ci := 11) (k := 3) dX11_init_45 rfl in_11 tyX11_ok nmX11 (Nat.le_of_ble_eq_true rfl) wd_298 rfl (Or.inr ⟨rfl, rfl⟩) trivial m3 h2 ?_
  exact k
theorem BX11_init_48 {d bc bs : Nat} {h : aH} {n : Nat} {Q : aQ} {r0 : Option Nat} (k : Rn d bc bs mX11_init 53 [some (vR r0)] [vR (some n), vR r0] (up h n (cQ 10 (List.replicate 4 none))) (n + 1) Q) : Rn d (bc + 1) (bs + 4) mX11_init 48 [some (vR r0)] [] h n Q := by
  refine Rn_aload_n dX11_init_48 rfl rfl rfl ?_
  refine Rn_iconst dX11_init_49 rfl ?_
  refine Rn_newarrQ (k := 10) (N := 4) (bc := bc) (bs := bs) (by decide) (by omega) (by omega) wd_290 dX11_init_50 (by decide) ?_
  exact k
theorem BX11_init_53 {d bc bs : Nat} {h : aH} {n : Nat} {Q : aQ} {r0 q1 : Option Nat} {aq0 : Nat} {f1 : List aV} (h2 : h aq0 = cO 11 f1) (m3 : 4 < f1.length) (k : Rn d bc bs mX11_init 56 [some (vR r0)] [] (up h aq0 (cO 11 (f1.set 4 (vR q1)))) n Q) : Rn d (bc) (bs) mX11_init 53 [some (vR r0)] [vR q1, vR (some aq0)] h n Q := by
  refine Rn_putfield (ci := 11) (k := 4) dX11_init_53 rfl in_11 tyX11_ok nmX11 (Nat.le_of_ble_eq_true rfl) wd_300 rfl (Or.inr ⟨rfl, rfl⟩) trivial m3 h2 ?_
  exact k
theorem BX11_init_56 {d bc bs : Nat} {h : aH} {n : Nat} {Q : aQ} {ar0 : Nat} {f1 : List aV} (h2 : h ar0 = cO 11 f1) (m3 : 5 < f1.length) (k : Rn d bc bs mX11_init 61 [some (vR (some ar0))] [] (up h ar0 (cO 11 (f1.set 5 (vI 0)))) n Q) : Rn d (bc) (bs) mX11_init 56 [some (vR (some ar0))] [] h n Q := by
  refine Rn_aload_n dX11_init_56 rfl rfl rfl ?_
  refine Rn_iconst dX11_init_57 rfl ?_
  refine Rn_putfield (ci := 11) (k := 5) dX11_init_58 rfl in_11 tyX11_ok nmX11 (Nat.le_of_ble_eq_true rfl) wd_301 rfl (Or.inl rfl) trivial m3 h2 ?_
  exact k
theorem BX11_init_61 {d bc bs : Nat} {h : aH} {n : Nat} {Q : aQ} {ar0 : Nat} {f1 : List aV} (h2 : h ar0 = cO 11 f1) (m3 : 6 < f1.length) (k : Rn d bc bs mX11_init 66 [some (vR (some ar0))] [] (up h ar0 (cO 11 (f1.set 6 (vI (-1))))) n Q) : Rn d (bc) (bs) mX11_init 61 [some (vR (some ar0))] [] h n Q := by
  refine Rn_aload_n dX11_init_61 rfl rfl rfl ?_
  refine Rn_iconst dX11_init_62 rfl ?_
  refine Rn_putfield (ci := 11) (k := 6) dX11_init_63 rfl in_11 tyX11_ok nmX11 (Nat.le_of_ble_eq_true rfl) wd_303 rfl (Or.inl rfl) trivial m3 h2 ?_
  exact k
theorem BX11_init_66 {d bc bs : Nat} {h : aH} {n : Nat} {Q : aQ} {r0 : Option Nat} (k : Q none h n) : Rn d (bc) (bs) mX11_init 66 [some (vR r0)] [] h n Q := by
  exact Rn_return rfl dX11_init_66 k
theorem dX11_copyFrom_0 : decode cX11_copyFrom 0 = .ok (.aload_n 0, 1) := by decide +kernel
theorem dX11_copyFrom_1 : decode cX11_copyFrom 1 = .ok (.getfield 12, 3) := by decide +kernel
theorem dX11_copyFrom_4 : decode cX11_copyFrom 4 = .ok (.aload_n 1, 1) := by decide +kernel
theorem dX11_copyFrom_5 : decode cX11_copyFrom 5 = .ok (.getfield 12, 3) := by decide +kernel
theorem dX11_copyFrom_8 : decode cX11_copyFrom 8 = .ok (.invokevirtual 52, 3) := by decide +kernel
theorem dX11_copyFrom_11 : decode cX11_copyFrom 11 = .ok (.aload_n 0, 1) := by decide +kernel
theorem dX11_copyFrom_12 : decode cX11_copyFrom 12 = .ok (.getfield 21, 3) := by decide +kernel
theorem dX11_copyFrom_15 : decode cX11_copyFrom 15 = .ok (.aload_n 1, 1) := by decide +kernel
theorem dX11_copyFrom_16 : decode cX11_copyFrom 16 = .ok (.getfield 21, 3) := by decide +kernel
theorem dX11_copyFrom_19 : decode cX11_copyFrom 19 = .ok (.invokevirtual 56, 3) := by decide +kernel
theorem dX11_copyFrom_22 : decode cX11_copyFrom 22 = .ok (.aload_n 0, 1) := by decide +kernel
theorem dX11_copyFrom_23 : decode cX11_copyFrom 23 = .ok (.getfield 28, 3) := by decide +kernel
theorem dX11_copyFrom_26 : decode cX11_copyFrom 26 = .ok (.aload_n 1, 1) := by decide +kernel
theorem dX11_copyFrom_27 : decode cX11_copyFrom 27 = .ok (.getfield 28, 3) := by decide +kernel
theorem dX11_copyFrom_30 : decode cX11_copyFrom 30 = .ok (.invokevirtual 59, 3) := by decide +kernel
theorem dX11_copyFrom_33 : decode cX11_copyFrom 33 = .ok (.aload_n 0, 1) := by decide +kernel
theorem dX11_copyFrom_34 : decode cX11_copyFrom 34 = .ok (.getfield 35, 3) := by decide +kernel
theorem dX11_copyFrom_37 : decode cX11_copyFrom 37 = .ok (.aload_n 1, 1) := by decide +kernel
theorem dX11_copyFrom_38 : decode cX11_copyFrom 38 = .ok (.getfield 35, 3) := by decide +kernel
theorem dX11_copyFrom_41 : decode cX11_copyFrom 41 = .ok (.invokevirtual 62, 3) := by decide +kernel
theorem dX11_copyFrom_44 : decode cX11_copyFrom 44 = .ok (.iconst 0, 1) := by decide +kernel
theorem dX11_copyFrom_45 : decode cX11_copyFrom 45 = .ok (.istore_n 2, 1) := by decide +kernel
theorem dX11_copyFrom_46 : decode cX11_copyFrom 46 = .ok (.iload_n 2, 1) := by decide +kernel
theorem dX11_copyFrom_47 : decode cX11_copyFrom 47 = .ok (.aload_n 0, 1) := by decide +kernel
theorem dX11_copyFrom_48 : decode cX11_copyFrom 48 = .ok (.getfield 41, 3) := by decide +kernel
theorem dX11_copyFrom_51 : decode cX11_copyFrom 51 = .ok (.arraylength, 1) := by decide +kernel
theorem dX11_copyFrom_52 : decode cX11_copyFrom 52 = .ok (.if_icmp .ge 30, 3) := by decide +kernel
theorem dX11_copyFrom_55 : decode cX11_copyFrom 55 = .ok (.iload_n 2, 1) := by decide +kernel
theorem dX11_copyFrom_56 : decode cX11_copyFrom 56 = .ok (.aload_n 1, 1) := by decide +kernel
theorem dX11_copyFrom_57 : decode cX11_copyFrom 57 = .ok (.getfield 41, 3) := by decide +kernel
theorem dX11_copyFrom_60 : decode cX11_copyFrom 60 = .ok (.arraylength, 1) := by decide +kernel
theorem dX11_copyFrom_61 : decode cX11_copyFrom 61 = .ok (.if_icmp .ge 21, 3) := by decide +kernel
theorem dX11_copyFrom_64 : decode cX11_copyFrom 64 = .ok (.aload_n 0, 1) := by decide +kernel
theorem dX11_copyFrom_65 : decode cX11_copyFrom 65 = .ok (.getfield 41, 3) := by decide +kernel
theorem dX11_copyFrom_68 : decode cX11_copyFrom 68 = .ok (.iload_n 2, 1) := by decide +kernel
theorem dX11_copyFrom_69 : decode cX11_copyFrom 69 = .ok (.aload_n 1, 1) := by decide +kernel
theorem dX11_copyFrom_70 : decode cX11_copyFrom 70 = .ok (.getfield 41, 3) := by decide +kernel
theorem dX11_copyFrom_73 : decode cX11_copyFrom 73 = .ok (.iload_n 2, 1) := by decide +kernel
theorem dX11_copyFrom_74 : decode cX11_copyFrom 74 = .ok (.aaload, 1) := by decide +kernel
theorem dX11_copyFrom_75 : decode cX11_copyFrom 75 = .ok (.aastore, 1) := by decide +kernel
theorem dX11_copyFrom_76 : decode cX11_copyFrom 76 = .ok (.iinc 2 1, 3) := by decide +kernel
theorem dX11_copyFrom_79 : decode cX11_copyFrom 79 = .ok (.goto (-33), 3) := by decide +kernel
theorem dX11_copyFrom_82 : decode cX11_copyFrom 82 = .ok (.aload_n 0, 1) := by decide +kernel
theorem dX11_copyFrom_83 : decode cX11_copyFrom 83 = .ok (.aload_n 1, 1) := by decide +kernel
theorem dX11_copyFrom_84 : decode cX11_copyFrom 84 = .ok (.getfield 45, 3) := by decide +kernel
theorem dX11_copyFrom_87 : decode cX11_copyFrom 87 = .ok (.putfield 45, 3) := by decide +kernel
theorem dX11_copyFrom_90 : decode cX11_copyFrom 90 = .ok (.aload_n 0, 1) := by decide +kernel
theorem dX11_copyFrom_91 : decode cX11_copyFrom 91 = .ok (.aload_n 1, 1) := by decide +kernel
theorem dX11_copyFrom_92 : decode cX11_copyFrom 92 = .ok (.getfield 49, 3) := by decide +kernel
theorem dX11_copyFrom_95 : decode cX11_copyFrom 95 = .ok (.putfield 49, 3) := by decide +kernel
theorem dX11_copyFrom_98 : decode cX11_copyFrom 98 = .ok (.return_, 1) := by decide +kernel
theorem BX11_copyFrom_0 {d bc bs : Nat} {h : aH} {n : Nat} {Q : aQ} {ar0 ar1 at3 : Nat} {l2 : Option aV} {f1 f5 f9 : List aV} {t7 : Option Nat} (h2 : h ar0 = cO 11 f1) (g4 : f1[0]? = some (vR (some at3))) (h6 : h ar1 = cO 11 f5) (g8 : f5[0]? = some (vR t7)) (h10 : h at3 = cO 7 f9) (k : Rn d 0 0 mX7_copyFrom 0 [some (vR (some at3)), some (vR t7)] [] h n (fun v h1 n1 => Rn (d + 1) bc bs mX11_copyFrom 11 [some (vR (some ar0)), some (vR (some ar1)), l2] (v.toList ++ []) h1 n1 Q)) : Rn (d + 1) (bc) (bs) mX11_copyFrom 0 [some (vR (some ar0)), some (vR (some ar1)), l2] [] h n Q := by
  refine Rn_aload_n dX11_copyFrom_0 rfl rfl rfl ?_
  refine Rn_getfield (ci := 11) (k := 0) dX11_copyFrom_1 rfl in_11 (Nat.le_of_ble_eq_true rfl) wd_292 rfl h2 g4 ?_
  refine Rn_aload_n dX11_copyFrom_4 rfl rfl rfl ?_
  refine Rn_getfield (ci := 11) (k := 0) dX11_copyFrom_5 rfl in_11 (Nat.le_of_ble_eq_true rfl) wd_292 rfl h6 g8 ?_
  exact Rn_callV (ci := 7) (avs := [vR t7]) (st := []) (bc1 := 0) (bs1 := 0) (bc2 := bc) (bs2 := bs) fx_X7_copyFrom dX11_copyFrom_8 wd_1324 wd_1325 wd_1326 rfl h10 rfl (Nat.le_of_ble_eq_true rfl) (Nat.le_of_ble_eq_true rfl) (by omega) (by omega) (ls1 := [some (vR (some at3)), some (vR t7)]) rfl k
theorem BX11_copyFrom_11 {d bc bs : Nat} {h : aH} {n : Nat} {Q : aQ} {ar0 ar1 at3 : Nat} {l2 : Option aV} {f1 f5 f9 : List aV} {t7 : Option Nat} (h2 : h ar0 = cO 11 f1) (g4 : f1[1]? = some (vR (some at3))) (h6 : h ar1 = cO 11 f5) (g8 : f5[1]? = some (vR t7)) (h10 : h at3 = cO 6 f9) (k : Rn d 0 0 mX6_copyFrom 0 [some (vR (some at3)), some (vR t7)] [] h n (fun v h1 n1 => Rn (d + 1) bc bs mX11_copyFrom 22 [some (vR (some ar0)), some (vR (some ar1)), l2] (v.toList ++ []) h1 n1 Q)) : Rn (d + 1) (bc) (bs) mX11_copyFrom 11 [some (vR (some ar0)), some (vR (some ar1)), l2] [] h n Q := by
  refine Rn_aload_n dX11_copyFrom_11 rfl rfl rfl ?_
  refine Rn_getfield (ci := 11) (k := 1) dX11_copyFrom_12 rfl in_11 (Nat.le_of_ble_eq_true rfl) wd_294 rfl h2 g4 ?_
  refine Rn_aload_n dX11_copyFrom_15 rfl rfl rfl ?_
  refine Rn_getfield (ci := 11) (k := 1) dX11_copyFrom_16 rfl in_11 (Nat.le_of_ble_eq_true rfl) wd_294 rfl h6 g8 ?_
  exact Rn_callV (ci := 6) (avs := [vR t7]) (st := []) (bc1 := 0) (bs1 := 0) (bc2 := bc) (bs2 := bs) fx_X6_copyFrom dX11_copyFrom_19 wd_1329 wd_798 wd_799 rfl h10 rfl (Nat.le_of_ble_eq_true rfl) (Nat.le_of_ble_eq_true rfl) (by omega) (by omega) (ls1 := [some (vR (some at3)), some (vR t7)]) rfl k
theorem BX11_copyFrom_22 {d bc bs : Nat} {h : aH} {n : Nat} {Q : aQ} {ar0 ar1 at3 : Nat} {l2 : Option aV} {f1 f5 f9 : List aV} {t7 : Option Nat} (h2 : h ar0 = cO 11 f1) (g4 : f1[2]? = some (vR (some at3))) (h6 : h ar1 = cO 11 f5) (g8 : f5[2]? = some (vR t7)) (h10 : h at3 = cO 8 f9) (k : Rn d 0 0 mX8_copyFrom 0 [some (vR (some at3)), some (vR t7), none, none, none] [] h n (fun v h1 n1 => Rn (d + 1) bc bs mX11_copyFrom 33 [some (vR (some ar0)), some (vR (some ar1)), l2] (v.toList ++ []) h1 n1 Q)) : Rn (d + 1) (bc) (bs) mX11_copyFrom 22 [some (vR (some ar0)), some (vR (some ar1)), l2] [] h n Q := by
  refine Rn_aload_n dX11_copyFrom_22 rfl rfl rfl ?_
  refine Rn_getfield (ci := 11) (k := 2) dX11_copyFrom_23 rfl in_11 (Nat.le_of_ble_eq_true rfl) wd_296 rfl h2 g4 ?_
  refine Rn_aload_n dX11_copyFrom_26 rfl rfl rfl ?_
  refine Rn_getfield (ci := 11) (k := 2) dX11_copyFrom_27 rfl in_11 (Nat.le_of_ble_eq_true rfl) wd_296 rfl h6 g8 ?_
  exact Rn_callV (ci := 8) (avs := [vR t7]) (st := []) (bc1 := 0) (bs1 := 0) (bc2 := bc) (bs2 := bs) fx_X8_copyFrom dX11_copyFrom_30 wd_1330 wd_1331 wd_1332 rfl h10 rfl (Nat.le_of_ble_eq_true rfl) (Nat.le_of_ble_eq_true rfl) (by omega) (by omega) (ls1 := [some (vR (some at3)), some (vR t7), none, none, none]) rfl k
theorem BX11_copyFrom_33 {d bc bs : Nat} {h : aH} {n : Nat} {Q : aQ} {ar0 ar1 at3 : Nat} {l2 : Option aV} {f1 f5 f9 : List aV} {t7 : Option Nat} (h2 : h ar0 = cO 11 f1) (g4 : f1[3]? = some (vR (some at3))) (h6 : h ar1 = cO 11 f5) (g8 : f5[3]? = some (vR t7)) (h10 : h at3 = cO 5 f9) (k : Rn d 0 0 mX5_copyFrom 0 [some (vR (some at3)), some (vR t7)] [] h n (fun v h1 n1 => Rn (d + 1) bc bs mX11_copyFrom 44 [some (vR (some ar0)), some (vR (some ar1)), l2] (v.toList ++ []) h1 n1 Q)) : Rn (d + 1) (bc) (bs) mX11_copyFrom 33 [some (vR (some ar0)), some (vR (some ar1)), l2] [] h n Q := by
  refine Rn_aload_n dX11_copyFrom_33 rfl rfl rfl ?_
  refine Rn_getfield (ci := 11) (k := 3) dX11_copyFrom_34 rfl in_11 (Nat.le_of_ble_eq_true rfl) wd_298 rfl h2 g4 ?_
  refine Rn_aload_n dX11_copyFrom_37 rfl rfl rfl ?_
  refine Rn_getfield (ci := 11) (k := 3) dX11_copyFrom_38 rfl in_11 (Nat.le_of_ble_eq_true rfl) wd_298 rfl h6 g8 ?_
  exact Rn_callV (ci := 5) (avs := [vR t7]) (st := []) (bc1 := 0) (bs1 := 0) (bc2 := bc) (bs2 := bs) fx_X5_copyFrom dX11_copyFrom_41 wd_1334 wd_1335 wd_1336 rfl h10 rfl (Nat.le_of_ble_eq_true rfl) (Nat.le_of_ble_eq_true rfl) (by omega) (by omega) (ls1 := [some (vR (some at3)), some (vR t7)]) rfl k
theorem BX11_copyFrom_44 {d bc bs : Nat} {h : aH} {n : Nat} {Q : aQ} {r0 r1 : Option Nat} {l2 : Option aV} (k : Rn d bc bs mX11_copyFrom 46 [some (vR r0), some (vR r1), some (vI 0)] [] h n Q) : Rn d (bc) (bs) mX11_copyFrom 44 [some (vR r0), some (vR r1), l2] [] h n Q := by
  refine Rn_iconst dX11_copyFrom_44 rfl ?_
  refine Rn_istore_n dX11_copyFrom_45 rfl (Nat.le_of_ble_eq_true rfl) rfl rfl ?_
  exact k
theorem BX11_copyFrom_46 {d bc bs : Nat} {h : aH} {n : Nat} {Q : aQ} {ar0 at3 : Nat} {r1 : Option Nat} {x2 : Int} {f1 : List aV} {w5 : List (Option Nat)} (h2 : h ar0 = cO 11 f1) (g4 : f1[4]? = some (vR (some at3))) (h6 : h at3 = cQ 10 w5) (y7 : w5.length < 2147483648) (z8 : at3 ≠ 0) (kt : (w5.length : Int) ≤ x2 → Rn d bc bs mX11_copyFrom 82 [some (vR (some ar0)), some (vR r1), some (vI x2)] [] h n Q) (kf : x2 < (w5.length : Int) → Rn d bc bs mX11_copyFrom 55 [some (vR (some ar0)), some (vR r1), some (vI x2)] [] h n Q) : Rn d (bc) (bs) mX11_copyFrom 46 [some (vR (some ar0)), some (vR r1), some (vI x2)] [] h n Q := by
  refine Rn_iload_n dX11_copyFrom_46 rfl rfl ?_
  refine Rn_aload_n dX11_copyFrom_47 rfl rfl rfl ?_
  refine Rn_getfield (ci := 11) (k := 4) dX11_copyFrom_48 rfl in_11 (Nat.le_of_ble_eq_true rfl) wd_300 rfl h2 g4 ?_
  refine Rn_alenQ dX11_copyFrom_51 z8 h6 y7 ?_
  refine Rn_icmpge (tgt := 82) dX11_copyFrom_52 rfl ?_ ?_
  · exact kt
  · exact kf
theorem BX11_copyFrom_55 {d bc bs : Nat} {h : aH} {n : Nat} {Q : aQ} {r0 : Option Nat} {ar1 at3 : Nat} {x2 : Int} {f1 : List aV} {w5 : List (Option Nat)} (h2 : h ar1 = cO 11 f1) (g4 : f1[4]? = some (vR (some at3))) (h6 : h at3 = cQ 10 w5) (y7 : w5.length < 2147483648) (z8 : at3 ≠ 0) (kt : (w5.length : Int) ≤ x2 → Rn d bc bs mX11_copyFrom 82 [some (vR r0), some (vR (some ar1)), some (vI x2)] [] h n Q) (kf : x2 < (w5.length : Int) → Rn d bc bs mX11_copyFrom 64 [some (vR r0), some (vR (some ar1)), some (vI x2)] [] h n Q) : Rn d (bc) (bs) mX11_copyFrom 55 [some (vR r0), some (vR (some ar1)), some (vI x2)] [] h n Q := by
  refine Rn_iload_n dX11_copyFrom_55 rfl rfl ?_
  refine Rn_aload_n dX11_copyFrom_56 rfl rfl rfl ?_
  refine Rn_getfield (ci := 11) (k := 4) dX11_copyFrom_57 rfl in_11 (Nat.le_of_ble_eq_true rfl) wd_300 rfl h2 g4 ?_
  refine Rn_alenQ dX11_copyFrom_60 z8 h6 y7 ?_
  refine Rn_icmpge (tgt := 82) dX11_copyFrom_61 rfl ?_ ?_
  · exact kt
  · exact kf
theorem BX11_copyFrom_64 {d bc bs : Nat} {h : aH} {n : Nat} {Q : aQ} {ar0 ar1 at3 at7 at11 : Nat} {x2 : Int} {f1 f5 f18 : List aV} {w9 w15 : List (Option Nat)} (h2 : h ar0 = cO 11 f1) (g4 : f1[4]? = some (vR (some at3))) (h6 : h ar1 = cO 11 f5) (g8 : f5[4]? = some (vR (some at7))) (h10 : h at7 = cQ 10 w9) (i12 : 0 ≤ x2) (g13 : w9[(x2 : Int).toNat]? = some (some at11)) (z14 : at7 ≠ 0) (h16 : h at3 = cQ 10 w15) (j17 : x2 < w15.length) (h19 : h at11 = cO 10 f18) (z20 : at3 ≠ 0) (k : Rn d bc bs mX11_copyFrom 76 [some (vR (some ar0)), some (vR (some ar1)), some (vI x2)] [] (up h at3 (cQ 10 (w15.set (x2 : Int).toNat (some at11)))) n Q) : Rn d (bc) (bs) mX11_copyFrom 64 [some (vR (some ar0)), some (vR (some ar1)), some (vI x2)] [] h n Q := by
  refine Rn_aload_n dX11_copyFrom_64 rfl rfl rfl ?_
  refine Rn_getfield (ci := 11) (k := 4) dX11_copyFrom_65 rfl in_11 (Nat.le_of_ble_eq_true rfl) wd_300 rfl h2 g4 ?_
  refine Rn_iload_n dX11_copyFrom_68 rfl rfl ?_
  refine Rn_aload_n dX11_copyFrom_69 rfl rfl rfl ?_
  refine Rn_getfield (ci := 11) (k := 4) dX11_copyFrom_70 rfl in_11 (Nat.le_of_ble_eq_true rfl) wd_300 rfl h6 g8 ?_
  refine Rn_iload_n dX11_copyFrom_73 rfl rfl ?_
  refine Rn_aaload dX11_copyFrom_74 z14 h10 i12 g13 ?_
  refine Rn_aastore (k := 10) (by decide) dX11_copyFrom_75 z20 h16 h19 i12 j17 ?_
  exact k
theorem BX11_copyFrom_76 {d bc bs : Nat} {h : aH} {n : Nat} {Q : aQ} {r0 r1 : Option Nat} {x2 : Int} (b1 : -2147483648 ≤ x2 + 1 ∧ x2 + 1 < 2147483648) (k : Rn d bc bs mX11_copyFrom 46 [some (vR r0), some (vR r1), some (vI (x2 + 1))] [] h n Q) : Rn d (bc) (bs) mX11_copyFrom 76 [some (vR r0), some (vR r1), some (vI x2)] [] h n Q := by
  refine Rn_iinc dX11_copyFrom_76 rfl (Nat.le_of_ble_eq_true rfl) rfl rfl rfl ?_
  rw [w32_id b1.1 b1.2]
  refine Rn_goto (tgt := 46) dX11_copyFrom_79 rfl ?_
  exact k
theorem BX11_copyFrom_82 {d bc bs : Nat} {h : aH} {n : Nat} {Q : aQ} {ar0 ar1 : Nat} {x2 v3 : Int} {f1 f5 : List aV} (h2 : h ar1 = cO 11 f1) (g4 : f1[5]? = some (vI v3)) (h6 : h ar0 = cO 11 f5) (m7 : 5 < f5.length) (k : Rn d bc bs mX11_copyFrom 90 [some (vR (some ar0)), some (vR (some ar1)), some (vI x2)] [] (up h ar0 (cO 11 (f5.set 5 (vI v3)))) n Q) : Rn d (bc) (bs) mX11_copyFrom 82 [some (vR (some ar0)), some (vR (some ar1)), some (vI x2)] [] h n Q := by
  refine Rn_aload_n dX11_copyFrom_82 rfl rfl rfl ?_
  refine Rn_aload_n dX11_copyFrom_83 rfl rfl rfl ?_
  refine Rn_getfield (ci := 11) (k := 5) dX11_copyFrom_84 rfl in_11 (Nat.le_of_ble_eq_true rfl) wd_301 rfl h2 g4 ?_
  refine Rn_putfield (ci := 11) (k := 5) dX11_copyFrom_87 rfl in_11 tyX11_ok nmX11 (Nat.le_of_ble_eq_true rfl) wd_301 rfl (Or.inl rfl) trivial m7 h6 ?_
  exact k
theorem BX11_copyFrom_90 {d bc bs : Nat} {h : aH} {n : Nat} {Q : aQ} {ar0 ar1 : Nat} {x2 v3 : Int} {f1 f5 : List aV} (h2 : h ar1 = cO 11 f1) (g4 : f1[6]? = some (vI v3)) (h6 : h ar0 = cO 11 f5) (m7 : 6 < f5.length) (k : Rn d bc bs mX11_copyFrom 98 [some (vR (some ar0)), some (vR (some ar1)), some (vI x2)] [] (up h ar0 (cO 11 (f5.set 6 (vI v3)))) n Q) : Rn d (bc) (bs) mX11_copyFrom 90 [some (vR (some ar0)), some (vR (some ar1)), some (vI x2)] [] h n Q := by
  refine Rn_aload_n dX11_copyFrom_90 rfl rfl rfl ?_
  refine Rn_aload_n dX11_copyFrom_91 rfl rfl rfl ?_
  refine Rn_getfield (ci := 11) (k := 6) dX11_copyFrom_92 rfl in_11 (Nat.le_of_ble_eq_true rfl) wd_303 rfl h2 g4 ?_
  refine Rn_putfield (ci := 11) (k := 6) dX11_copyFrom_95 rfl in_11 tyX11_ok nmX11 (Nat.le_of_ble_eq_true rfl) wd_303 rfl (Or.inl rfl) trivial m7 h6 ?_
  exact k
theorem BX11_copyFrom_98 {d bc bs : Nat} {h : aH} {n : Nat} {Q : aQ} {r0 r1 : Option Nat} {x2 : Int} (k : Q none h n) : Rn d (bc) (bs) mX11_copyFrom 98 [some (vR r0), some (vR r1), some (vI x2)] [] h n Q := by
  exact Rn_return rfl dX11_copyFrom_98 k
theorem dX11_addText_0 : decode cX11_addText 0 = .ok (.aload_n 0, 1) := by decide +kernel
theorem dX11_addText_1 : decode cX11_addText 1 = .ok (.getfield 45, 3) := by decide +kernel
theorem dX11_addText_4 : decode cX11_addText 4 = .ok (.ifCond .lt 15, 3) := by decide +kernel
theorem dX11_addText_7 : decode cX11_addText 7 = .ok (.aload_n 0, 1) := by decide +kernel
theorem dX11_addText_8 : decode cX11_addText 8 = .ok (.getfield 45, 3) := by decide +kernel
theorem dX11_addText_11 : decode cX11_addText 11 = .ok (.aload_n 0, 1) := by decide +kernel
theorem dX11_addText_12 : decode cX11_addText 12 = .ok (.getfield 41, 3) := by decide +kernel
theorem dX11_addText_15 : decode cX11_addText 15 = .ok (.arraylength, 1) := by decide +kernel
theorem dX11_addText_16 : decode cX11_addText 16 = .ok (.if_icmp .lt 5, 3) := by decide +kernel
theorem dX11_addText_19 : decode cX11_addText 19 = .ok (.iconst (-1), 1) := by decide +kernel
theorem dX11_addText_20 : decode cX11_addText 20 = .ok (.ireturn, 1) := by decide +kernel
theorem dX11_addText_21 : decode cX11_addText 21 = .ok (.aload_n 0, 1) := by decide +kernel
theorem dX11_addText_22 : decode cX11_addText 22 = .ok (.getfield 41, 3) := by decide +kernel
theorem dX11_addText_25 : decode cX11_addText 25 = .ok (.aload_n 0, 1) := by decide +kernel
theorem dX11_addText_26 : decode cX11_addText 26 = .ok (.getfield 45, 3) := by decide +kernel
theorem dX11_addText_29 : decode cX11_addText 29 = .ok (.aload_n 1, 1) := by decide +kernel
theorem dX11_addText_30 : decode cX11_addText 30 = .ok (.aastore, 1) := by decide +kernel
theorem dX11_addText_31 : decode cX11_addText 31 = .ok (.aload_n 0, 1) := by decide +kernel
theorem dX11_addText_32 : decode cX11_addText 32 = .ok (.dup, 1) := by decide +kernel
theorem dX11_addText_33 : decode cX11_addText 33 = .ok (.getfield 45, 3) := by decide +kernel
theorem dX11_addText_36 : decode cX11_addText 36 = .ok (.iconst 1, 1) := by decide +kernel
theorem dX11_addText_37 : decode cX11_addText 37 = .ok (.iadd, 1) := by decide +kernel
theorem dX11_addText_38 : decode cX11_addText 38 = .ok (.putfield 45, 3) := by decide +kernel
theorem dX11_addText_41 : decode cX11_addText 41 = .ok (.aload_n 0, 1) := by decide +kernel
theorem dX11_addText_42 : decode cX11_addText 42 = .ok (.getfield 45, 3) := by decide +kernel
theorem dX11_addText_45 : decode cX11_addText 45 = .ok (.iconst 1, 1) := by decide +kernel
theorem dX11_addText_46 : decode cX11_addText 46 = .ok (.isub, 1) := by decide +kernel
theorem dX11_addText_47 : decode cX11_addText 47 = .ok (.ireturn, 1) := by decide +kernel
theorem BX11_addText_0 {d bc bs : Nat} {h : aH} {n : Nat} {Q : aQ} {ar0 : Nat} {r1 : Option Nat} {f1 : List aV} {v3 : Int} (h2 : h ar0 = cO 11 f1) (g4 : f1[5]? = some (vI v3)) (kt : v3 < 0 → Rn d bc bs mX11_addText 19 [some (vR (some ar0)), some (vR r1)] [] h n Q) (kf : 0 ≤ v3 → Rn d bc bs mX11_addText 7 [some (vR (some ar0)), some (vR r1)] [] h n Q) : Rn d (bc) (bs) mX11_addText 0 [some (vR (some ar0)), some (vR r1)] [] h n Q := by
  refine Rn_aload_n dX11_addText_0 rfl rfl rfl ?_
  refine Rn_getfield (ci := 11) (k := 5) dX11_addText_1 rfl in_11 (Nat.le_of_ble_eq_true rfl) wd_301 rfl h2 g4 ?_
  refine Rn_iflt (tgt := 19) dX11_addText_4 rfl ?_ ?_
  · exact kt
  · exact kf
theorem BX11_addText_7 {d bc bs : Nat} {h : aH} {n : Nat} {Q : aQ} {ar0 at5 : Nat} {r1 : Option Nat} {f1 : List aV} {v3 : Int} {w7 : List (Option Nat)} (h2 : h ar0 = cO 11 f1) (g4 : f1[5]? = some (vI v3)) (g6 : f1[4]? = some (vR (some at5))) (h8 : h at5 = cQ 10 w7) (y9 : w7.length < 2147483648) (z10 : at5 ≠ 0) (kt : v3 < (w7.length : Int) → Rn d bc bs mX11_addText 21 [some (vR (some ar0)), some (vR r1)] [] h n Q) (kf : (w7.length : Int) ≤ v3 → Rn d bc bs mX11_addText 19 [some (vR (some ar0)), some (vR r1)] [] h n Q) : Rn d (bc) (bs) mX11_addText 7 [some (vR (some ar0)), some (vR r1)] [] h n Q := by
  refine Rn_aload_n dX11_addText_7 rfl rfl rfl ?_
  refine Rn_getfield (ci := 11) (k := 5) dX11_addText_8 rfl in_11 (Nat.le_of_ble_eq_true rfl) wd_301 rfl h2 g4 ?_
  refine Rn_aload_n dX11_addText_11 rfl rfl rfl ?_
  refine Rn_getfield (ci := 11) (k := 4) dX11_addText_12 rfl in_11 (Nat.le_of_ble_eq_true rfl) wd_300 rfl h2 g6 ?_
  refine Rn_alenQ dX11_addText_15 z10 h8 y9 ?_
  refine Rn_icmplt (tgt := 21) dX11_addText_16 rfl ?_ ?_
  · exact kt
  · exact kf
theorem BX11_addText_19 {d bc bs : Nat} {h : aH} {n : Nat} {Q : aQ} {r0 r1 : Option Nat} (k : Q (some (vI (-1))) h n) : Rn d (bc) (bs) mX11_addText 19 [some (vR r0), some (vR r1)] [] h n Q := by
  refine Rn_iconst dX11_addText_19 rfl ?_
  exact Rn_ireturn rfl dX11_addText_20 k
theorem BX11_addText_21 {d bc bs : Nat} {h : aH} {n : Nat} {Q : aQ} {ar0 ar1 at3 : Nat} {f1 f11 : List aV} {v5 : Int} {w7 : List (Option Nat)} (h2 : h ar0 = cO 11 f1) (g4 : f1[4]? = some (vR (some at3))) (g6 : f1[5]? = some (vI v5)) (h8 : h at3 = cQ 10 w7) (i9 : 0 ≤ v5) (j10 : v5 < w7.length) (h12 : h ar1 = cO 10 f11) (z13 : at3 ≠ 0) (k : Rn d bc bs mX11_addText 31 [some (vR (some ar0)), some (vR (some ar1))] [] (up h at3 (cQ 10 (w7.set (v5 : Int).toNat (some ar1)))) n Q) : Rn d (bc) (bs) mX11_addText 21 [some (vR (some ar0)), some (vR (some ar1))] [] h n Q := by
  refine Rn_aload_n dX11_addText_21 rfl rfl rfl ?_
  refine Rn_getfield (ci := 11) (k := 4) dX11_addText_22 rfl in_11 (Nat.le_of_ble_eq_true rfl) wd_300 rfl h2 g4 ?_
  refine Rn_aload_n dX11_addText_25 rfl rfl rfl ?_
  refine Rn_getfield (ci := 11) (k := 5) dX11_addText_26 rfl in_11 (Nat.le_of_ble_eq_true rfl) wd_301 rfl h2 g6 ?_
  refine Rn_aload_n dX11_addText_29 rfl rfl rfl ?_
  refine Rn_aastore (k := 10) (by decide) dX11_addText_30 z13 h8 h12 i9 j10 ?_
  exact k
theorem BX11_addText_31 {d bc bs : Nat} {h : aH} {n : Nat} {Q : aQ} {ar0 : Nat} {r1 : Option Nat} {f1 : List aV} {v3 : Int} (h2 : h ar0 = cO 11 f1) (g4 : f1[5]? = some (vI v3)) (b5 : -2147483648 ≤ v3 + 1 ∧ v3 + 1 < 2147483648) (m6 : 5 < f1.length) (k : Rn d bc bs mX11_addText 41 [some (vR (some ar0)), some (vR r1)] [] (up h ar0 (cO 11 (f1.set 5 (vI (v3 + 1))))) n Q) : Rn d (bc) (bs) mX11_addText 31 [some (vR (some ar0)), some (vR r1)] [] h n Q := by
  refine Rn_aload_n dX11_addText_31 rfl rfl rfl ?_
  refine Rn_dup dX11_addText_32 rfl ?_
  refine Rn_getfield (ci := 11) (k := 5) dX11_addText_33 rfl in_11 (Nat.le_of_ble_eq_true rfl) wd_301 rfl h2 g4 ?_
  refine Rn_iconst dX11_addText_36 rfl ?_
  refine Rn_iadd dX11_addText_37 ?_
  rw [w32_id b5.1 b5.2]
  refine Rn_putfield (ci := 11) (k := 5) dX11_addText_38 rfl in_11 tyX11_ok nmX11 (Nat.le_of_ble_eq_true rfl) wd_301 rfl (Or.inl rfl) trivial m6 h2 ?_
  exact k
theorem BX11_addText_41 {d bc bs : Nat} {h : aH} {n : Nat} {Q : aQ} {ar0 : Nat} {r1 : Option Nat} {f1 : List aV} {v3 : Int} (h2 : h ar0 = cO 11 f1) (g4 : f1[5]? = some (vI v3)) (b5 : -2147483648 ≤ v3 - 1 ∧ v3 - 1 < 2147483648) (k : Q (some (vI (v3 - 1))) h n) : Rn d (bc) (bs) mX11_addText 41 [some (vR (some ar0)), some (vR r1)] [] h n Q := by
  refine Rn_aload_n dX11_addText_41 rfl rfl rfl ?_
  refine Rn_getfield (ci := 11) (k := 5) dX11_addText_42 rfl in_11 (Nat.le_of_ble_eq_true rfl) wd_301 rfl h2 g4 ?_
  refine Rn_iconst dX11_addText_45 rfl ?_
  refine Rn_isub dX11_addText_46 ?_
  rw [w32_id b5.1 b5.2]
  exact Rn_ireturn rfl dX11_addText_47 k
theorem dX11_textOf_0 : decode cX11_textOf 0 = .ok (.iload_n 1, 1) := by decide +kernel
theorem dX11_textOf_1 : decode cX11_textOf 1 = .ok (.ifCond .lt 29, 3) := by decide +kernel
theorem dX11_textOf_4 : decode cX11_textOf 4 = .ok (.iload_n 1, 1) := by decide +kernel
theorem dX11_textOf_5 : decode cX11_textOf 5 = .ok (.aload_n 0, 1) := by decide +kernel
theorem dX11_textOf_6 : decode cX11_textOf 6 = .ok (.getfield 45, 3) := by decide +kernel
theorem dX11_textOf_9 : decode cX11_textOf 9 = .ok (.if_icmp .ge 21, 3) := by decide +kernel
theorem dX11_textOf_12 : decode cX11_textOf 12 = .ok (.iload_n 1, 1) := by decide +kernel
theorem dX11_textOf_13 : decode cX11_textOf 13 = .ok (.aload_n 0, 1) := by decide +kernel
theorem dX11_textOf_14 : decode cX11_textOf 14 = .ok (.getfield 41, 3) := by decide +kernel
theorem dX11_textOf_17 : decode cX11_textOf 17 = .ok (.arraylength, 1) := by decide +kernel
theorem dX11_textOf_18 : decode cX11_textOf 18 = .ok (.if_icmp .ge 12, 3) := by decide +kernel
theorem dX11_textOf_21 : decode cX11_textOf 21 = .ok (.aload_n 0, 1) := by decide +kernel
theorem dX11_textOf_22 : decode cX11_textOf 22 = .ok (.getfield 41, 3) := by decide +kernel
theorem dX11_textOf_25 : decode cX11_textOf 25 = .ok (.iload_n 1, 1) := by decide +kernel
theorem dX11_textOf_26 : decode cX11_textOf 26 = .ok (.aaload, 1) := by decide +kernel
theorem dX11_textOf_27 : decode cX11_textOf 27 = .ok (.goto 4, 3) := by decide +kernel
theorem dX11_textOf_30 : decode cX11_textOf 30 = .ok (.aconst_null, 1) := by decide +kernel
theorem dX11_textOf_31 : decode cX11_textOf 31 = .ok (.areturn, 1) := by decide +kernel
theorem BX11_textOf_0 {d bc bs : Nat} {h : aH} {n : Nat} {Q : aQ} {r0 : Option Nat} {x1 : Int} (kt : x1 < 0 → Rn d bc bs mX11_textOf 30 [some (vR r0), some (vI x1)] [] h n Q) (kf : 0 ≤ x1 → Rn d bc bs mX11_textOf 4 [some (vR r0), some (vI x1)] [] h n Q) : Rn d (bc) (bs) mX11_textOf 0 [some (vR r0), some (vI x1)] [] h n Q := by
  refine Rn_iload_n dX11_textOf_0 rfl rfl ?_
  refine Rn_iflt (tgt := 30) dX11_textOf_1 rfl ?_ ?_
  · exact kt
  · exact kf
theorem BX11_textOf_4 {d bc bs : Nat} {h : aH} {n : Nat} {Q : aQ} {ar0 : Nat} {x1 v3 : Int} {f1 : List aV} (h2 : h ar0 = cO 11 f1) (g4 : f1[5]? = some (vI v3)) (kt : v3 ≤ x1 → Rn d bc bs mX11_textOf 30 [some (vR (some ar0)), some (vI x1)] [] h n Q) (kf : x1 < v3 → Rn d bc bs mX11_textOf 12 [some (vR (some ar0)), some (vI x1)] [] h n Q) : Rn d (bc) (bs) mX11_textOf 4 [some (vR (some ar0)), some (vI x1)] [] h n Q := by
  refine Rn_iload_n dX11_textOf_4 rfl rfl ?_
  refine Rn_aload_n dX11_textOf_5 rfl rfl rfl ?_
  refine Rn_getfield (ci := 11) (k := 5) dX11_textOf_6 rfl in_11 (Nat.le_of_ble_eq_true rfl) wd_301 rfl h2 g4 ?_
  refine Rn_icmpge (tgt := 30) dX11_textOf_9 rfl ?_ ?_
  · exact kt
  · exact kf
theorem BX11_textOf_12 {d bc bs : Nat} {h : aH} {n : Nat} {Q : aQ} {ar0 at3 : Nat} {x1 : Int} {f1 : List aV} {w5 : List (Option Nat)} (h2 : h ar0 = cO 11 f1) (g4 : f1[4]? = some (vR (some at3))) (h6 : h at3 = cQ 10 w5) (y7 : w5.length < 2147483648) (z8 : at3 ≠ 0) (kt : (w5.length : Int) ≤ x1 → Rn d bc bs mX11_textOf 30 [some (vR (some ar0)), some (vI x1)] [] h n Q) (kf : x1 < (w5.length : Int) → Rn d bc bs mX11_textOf 21 [some (vR (some ar0)), some (vI x1)] [] h n Q) : Rn d (bc) (bs) mX11_textOf 12 [some (vR (some ar0)), some (vI x1)] [] h n Q := by
  refine Rn_iload_n dX11_textOf_12 rfl rfl ?_
  refine Rn_aload_n dX11_textOf_13 rfl rfl rfl ?_
  refine Rn_getfield (ci := 11) (k := 4) dX11_textOf_14 rfl in_11 (Nat.le_of_ble_eq_true rfl) wd_300 rfl h2 g4 ?_
  refine Rn_alenQ dX11_textOf_17 z8 h6 y7 ?_
  refine Rn_icmpge (tgt := 30) dX11_textOf_18 rfl ?_ ?_
  · exact kt
  · exact kf
theorem BX11_textOf_21 {d bc bs : Nat} {h : aH} {n : Nat} {Q : aQ} {ar0 at3 : Nat} {x1 : Int} {f1 : List aV} {w5 : List (Option Nat)} {t7 : Option Nat} (h2 : h ar0 = cO 11 f1) (g4 : f1[4]? = some (vR (some at3))) (h6 : h at3 = cQ 10 w5) (i8 : 0 ≤ x1) (g9 : w5[(x1 : Int).toNat]? = some t7) (z10 : at3 ≠ 0) (k : Q (some (vR t7)) h n) : Rn d (bc) (bs) mX11_textOf 21 [some (vR (some ar0)), some (vI x1)] [] h n Q := by
  refine Rn_aload_n dX11_textOf_21 rfl rfl rfl ?_
  refine Rn_getfield (ci := 11) (k := 4) dX11_textOf_22 rfl in_11 (Nat.le_of_ble_eq_true rfl) wd_300 rfl h2 g4 ?_
  refine Rn_iload_n dX11_textOf_25 rfl rfl ?_
  refine Rn_aaload dX11_textOf_26 z10 h6 i8 g9 ?_
  refine Rn_goto (tgt := 31) dX11_textOf_27 rfl ?_
  exact Rn_areturn rfl rfl dX11_textOf_31 k
theorem BX11_textOf_30 {d bc bs : Nat} {h : aH} {n : Nat} {Q : aQ} {r0 : Option Nat} {x1 : Int} (k : Q (some (vR none)) h n) : Rn d (bc) (bs) mX11_textOf 30 [some (vR r0), some (vI x1)] [] h n Q := by
  refine Rn_null dX11_textOf_30 ?_
  exact Rn_areturn rfl rfl dX11_textOf_31 k
theorem dX11_rules_0 : decode cX11_rules 0 = .ok (.aload_n 0, 1) := by decide +kernel
theorem dX11_rules_1 : decode cX11_rules 1 = .ok (.aload_n 0, 1) := by decide +kernel
theorem dX11_rules_2 : decode cX11_rules 2 = .ok (.getfield 49, 3) := by decide +kernel
theorem dX11_rules_5 : decode cX11_rules 5 = .ok (.invokevirtual 65, 3) := by decide +kernel
theorem dX11_rules_8 : decode cX11_rules 8 = .ok (.areturn, 1) := by decide +kernel
theorem BX11_rules_0 {d bc bs : Nat} {h : aH} {n : Nat} {Q : aQ} {ar0 : Nat} {f1 : List aV} {v3 : Int} (h2 : h ar0 = cO 11 f1) (g4 : f1[6]? = some (vI v3)) (k : Rn d 0 0 mX11_textOf 0 [some (vR (some ar0)), some (vI v3)] [] h n (fun v h1 n1 => Rn (d + 1) bc bs mX11_rules 8 [some (vR (some ar0))] (v.toList ++ []) h1 n1 Q)) : Rn (d + 1) (bc) (bs) mX11_rules 0 [some (vR (some ar0))] [] h n Q := by
  refine Rn_aload_n dX11_rules_0 rfl rfl rfl ?_
  refine Rn_aload_n dX11_rules_1 rfl rfl rfl ?_
  refine Rn_getfield (ci := 11) (k := 6) dX11_rules_2 rfl in_11 (Nat.le_of_ble_eq_true rfl) wd_303 rfl h2 g4 ?_
  exact Rn_callV (ci := 11) (avs := [vI v3]) (st := []) (bc1 := 0) (bs1 := 0) (bc2 := bc) (bs2 := bs) fx_X11_textOf dX11_rules_5 wd_875 wd_876 wd_877 rfl h2 rfl (Nat.le_of_ble_eq_true rfl) (Nat.le_of_ble_eq_true rfl) (by omega) (by omega) (ls1 := [some (vR (some ar0)), some (vI v3)]) rfl k
theorem BX11_rules_8 {d bc bs : Nat} {h : aH} {n : Nat} {Q : aQ} {r0 q0 : Option Nat} (k : Q (some (vR q0)) h n) : Rn d (bc) (bs) mX11_rules 8 [some (vR r0)] [vR q0] h n Q := by
  exact Rn_areturn rfl rfl dX11_rules_8 k
theorem dJ9_floorMod_7cf53_0 : decode cJ9_floorMod_7cf53 0 = .ok (.iload_n 0, 1) := by decide +kernel
theorem dJ9_floorMod_7cf53_1 : decode cJ9_floorMod_7cf53 1 = .ok (.iload_n 1, 1) := by decide +kernel
theorem dJ9_floorMod_7cf53_2 : decode cJ9_floorMod_7cf53 2 = .ok (.irem, 1) := by decide +kernel
theorem dJ9_floorMod_7cf53_3 : decode cJ9_floorMod_7cf53 3 = .ok (.istore_n 2, 1) := by decide +kernel
theorem dJ9_floorMod_7cf53_4 : decode cJ9_floorMod_7cf53 4 = .ok (.iload_n 0, 1) := by decide +kernel
theorem dJ9_floorMod_7cf53_5 : decode cJ9_floorMod_7cf53 5 = .ok (.iload_n 1, 1) := by decide +kernel
theorem dJ9_floorMod_7cf53_6 : decode cJ9_floorMod_7cf53 6 = .ok (.ixor, 1) := by decide +kernel
theorem dJ9_floorMod_7cf53_7 : decode cJ9_floorMod_7cf53 7 = .ok (.ifCond .ge 11, 3) := by decide +kernel
theorem dJ9_floorMod_7cf53_10 : decode cJ9_floorMod_7cf53 10 = .ok (.iload_n 2, 1) := by decide +kernel
theorem dJ9_floorMod_7cf53_11 : decode cJ9_floorMod_7cf53 11 = .ok (.ifCond .eq 7, 3) := by decide +kernel
theorem dJ9_floorMod_7cf53_14 : decode cJ9_floorMod_7cf53 14 = .ok (.iload_n 2, 1) := by decide +kernel
theorem dJ9_floorMod_7cf53_15 : decode cJ9_floorMod_7cf53 15 = .ok (.iload_n 1, 1) := by decide +kernel
theorem dJ9_floorMod_7cf53_16 : decode cJ9_floorMod_7cf53 16 = .ok (.iadd, 1) := by decide +kernel
theorem dJ9_floorMod_7cf53_17 : decode cJ9_floorMod_7cf53 17 = .ok (.ireturn, 1) := by decide +kernel
theorem dJ9_floorMod_7cf53_18 : decode cJ9_floorMod_7cf53 18 = .ok (.iload_n 2, 1) := by decide +kernel
theorem dJ9_floorMod_7cf53_19 : decode cJ9_floorMod_7cf53 19 = .ok (.ireturn, 1) := by decide +kernel
theorem BJ9_floorMod_7cf53_0 {d bc bs : Nat} {h : aH} {n : Nat} {Q : aQ} {x0 x1 : Int} {l2 : Option aV} (e1 : ¬ x1 = 0) (kt : 0 ≤ (xor32 x0 x1) → Rn d bc bs mJ9_floorMod_7cf53 18 [some (vI x0), some (vI x1), some (vI (Int.tmod x0 x1))] [] h n Q) (kf : (xor32 x0 x1) < 0 → Rn d bc bs mJ9_floorMod_7cf53 10 [some (vI x0), some (vI x1), some (vI (Int.tmod x0 x1))] [] h n Q) : Rn d (bc) (bs) mJ9_floorMod_7cf53 0 [some (vI x0), some (vI x1), l2] [] h n Q := by
  refine Rn_iload_n dJ9_floorMod_7cf53_0 rfl rfl ?_
  refine Rn_iload_n dJ9_floorMod_7cf53_1 rfl rfl ?_
  refine Rn_irem dJ9_floorMod_7cf53_2 e1 ?_
  refine Rn_istore_n dJ9_floorMod_7cf53_3 rfl (Nat.le_of_ble_eq_true rfl) rfl rfl ?_
  refine Rn_iload_n dJ9_floorMod_7cf53_4 rfl rfl ?_
  refine Rn_iload_n dJ9_floorMod_7cf53_5 rfl rfl ?_
  refine Rn_ixor dJ9_floorMod_7cf53_6 ?_
  refine Rn_ifge (tgt := 18) dJ9_floorMod_7cf53_7 rfl ?_ ?_
  · exact kt
  · exact kf
theorem BJ9_floorMod_7cf53_10 {d bc bs : Nat} {h : aH} {n : Nat} {Q : aQ} {x0 x1 x2 : Int} (kt : x2 = 0 → Rn d bc bs mJ9_floorMod_7cf53 18 [some (vI x0), some (vI x1), some (vI x2)] [] h n Q) (kf : x2 ≠ 0 → Rn d bc bs mJ9_floorMod_7cf53 14 [some (vI x0), some (vI x1), some (vI x2)] [] h n Q) : Rn d (bc) (bs) mJ9_floorMod_7cf53 10 [some (vI x0), some (vI x1), some (vI x2)] [] h n Q := by
  refine Rn_iload_n dJ9_floorMod_7cf53_10 rfl rfl ?_
  refine Rn_ifeq (tgt := 18) dJ9_floorMod_7cf53_11 rfl ?_ ?_
  · exact kt
  · exact kf
theorem BJ9_floorMod_7cf53_14 {d bc bs : Nat} {h : aH} {n : Nat} {Q : aQ} {x0 x1 x2 : Int} (b1 : -2147483648 ≤ x2 + x1 ∧ x2 + x1 < 2147483648) (k : Q (some (vI (x2 + x1))) h n) : Rn d (bc) (bs) mJ9_floorMod_7cf53 14 [some (vI x0), some (vI x1), some (vI x2)] [] h n Q := by
  refine Rn_iload_n dJ9_floorMod_7cf53_14 rfl rfl ?_
  refine Rn_iload_n dJ9_floorMod_7cf53_15 rfl rfl ?_
  refine Rn_iadd dJ9_floorMod_7cf53_16 ?_
  rw [w32_id b1.1 b1.2]
  exact Rn_ireturn rfl dJ9_floorMod_7cf53_17 k
theorem BJ9_floorMod_7cf53_18 {d bc bs : Nat} {h : aH} {n : Nat} {Q : aQ} {x0 x1 x2 : Int} (k : Q (some (vI x2)) h n) : Rn d (bc) (bs) mJ9_floorMod_7cf53 18 [some (vI x0), some (vI x1), some (vI x2)] [] h n Q := by
  refine Rn_iload_n dJ9_floorMod_7cf53_18 rfl rfl ?_
  exact Rn_ireturn rfl dJ9_floorMod_7cf53_19 k
theorem dJ9_max_7cf53_0 : decode cJ9_max_7cf53 0 = .ok (.iload_n 0, 1) := by decide +kernel
theorem dJ9_max_7cf53_1 : decode cJ9_max_7cf53 1 = .ok (.iload_n 1, 1) := by decide +kernel
theorem dJ9_max_7cf53_2 : decode cJ9_max_7cf53 2 = .ok (.if_icmp .lt 7, 3) := by decide +kernel
theorem dJ9_max_7cf53_5 : decode cJ9_max_7cf53 5 = .ok (.iload_n 0, 1) := by decide +kernel
theorem dJ9_max_7cf53_6 : decode cJ9_max_7cf53 6 = .ok (.goto 4, 3) := by decide +kernel
theorem dJ9_max_7cf53_9 : decode cJ9_max_7cf53 9 = .ok (.iload_n 1, 1) := by decide +kernel
theorem dJ9_max_7cf53_10 : decode cJ9_max_7cf53 10 = .ok (.ireturn, 1) := by decide +kernel
theorem BJ9_max_7cf53_0 {d bc bs : Nat} {h : aH} {n : Nat} {Q : aQ} {x0 x1 : Int} (kt : x0 < x1 → Rn d bc bs mJ9_max_7cf53 9 [some (vI x0), some (vI x1)] [] h n Q) (kf : x1 ≤ x0 → Rn d bc bs mJ9_max_7cf53 5 [some (vI x0), some (vI x1)] [] h n Q) : Rn d (bc) (bs) mJ9_max_7cf53 0 [some (vI x0), some (vI x1)] [] h n Q := by
  refine Rn_iload_n dJ9_max_7cf53_0 rfl rfl ?_
  refine Rn_iload_n dJ9_max_7cf53_1 rfl rfl ?_
  refine Rn_icmplt (tgt := 9) dJ9_max_7cf53_2 rfl ?_ ?_
  · exact kt
  · exact kf
theorem BJ9_max_7cf53_5 {d bc bs : Nat} {h : aH} {n : Nat} {Q : aQ} {x0 x1 : Int} (k : Q (some (vI x0)) h n) : Rn d (bc) (bs) mJ9_max_7cf53 5 [some (vI x0), some (vI x1)] [] h n Q := by
  refine Rn_iload_n dJ9_max_7cf53_5 rfl rfl ?_
  refine Rn_goto (tgt := 10) dJ9_max_7cf53_6 rfl ?_
  exact Rn_ireturn rfl dJ9_max_7cf53_10 k
theorem BJ9_max_7cf53_9 {d bc bs : Nat} {h : aH} {n : Nat} {Q : aQ} {x0 x1 : Int} (k : Q (some (vI x1)) h n) : Rn d (bc) (bs) mJ9_max_7cf53 9 [some (vI x0), some (vI x1)] [] h n Q := by
  refine Rn_iload_n dJ9_max_7cf53_9 rfl rfl ?_
  exact Rn_ireturn rfl dJ9_max_7cf53_10 k
theorem dJ9_max_f86c9_0 : decode cJ9_max_f86c9 0 = .ok (.lload_n 0, 1) := by decide +kernel
theorem dJ9_max_f86c9_1 : decode cJ9_max_f86c9 1 = .ok (.lload_n 2, 1) := by decide +kernel
theorem dJ9_max_f86c9_2 : decode cJ9_max_f86c9 2 = .ok (.lcmp, 1) := by decide +kernel
theorem dJ9_max_f86c9_3 : decode cJ9_max_f86c9 3 = .ok (.ifCond .lt 7, 3) := by decide +kernel
theorem dJ9_max_f86c9_6 : decode cJ9_max_f86c9 6 = .ok (.lload_n 0, 1) := by decide +kernel
theorem dJ9_max_f86c9_7 : decode cJ9_max_f86c9 7 = .ok (.goto 4, 3) := by decide +kernel
theorem dJ9_max_f86c9_10 : decode cJ9_max_f86c9 10 = .ok (.lload_n 2, 1) := by decide +kernel
theorem dJ9_max_f86c9_11 : decode cJ9_max_f86c9 11 = .ok (.lreturn, 1) := by decide +kernel
theorem BJ9_max_f86c9_0 {d bc bs : Nat} {h : aH} {n : Nat} {Q : aQ} {x0 x2 : Int} (kt : x0 < x2 → Rn d bc bs mJ9_max_f86c9 10 [some (vL x0), none, some (vL x2), none] [] h n Q) (kf : x2 ≤ x0 → Rn d bc bs mJ9_max_f86c9 6 [some (vL x0), none, some (vL x2), none] [] h n Q) : Rn d (bc) (bs) mJ9_max_f86c9 0 [some (vL x0), none, some (vL x2), none] [] h n Q := by
  refine Rn_lload_n dJ9_max_f86c9_0 rfl rfl ?_
  refine Rn_lload_n dJ9_max_f86c9_1 rfl rfl ?_
  refine Rn_lcmp dJ9_max_f86c9_2 ?_
  refine Rn_iflt (tgt := 10) dJ9_max_f86c9_3 rfl ?_ ?_
  · exact fun q => kt (lc_lt q)
  · exact fun q => kf (lc_ge q)
theorem BJ9_max_f86c9_6 {d bc bs : Nat} {h : aH} {n : Nat} {Q : aQ} {x0 x2 : Int} (k : Q (some (vL x0)) h n) : Rn d (bc) (bs) mJ9_max_f86c9 6 [some (vL x0), none, some (vL x2), none] [] h n Q := by
  refine Rn_lload_n dJ9_max_f86c9_6 rfl rfl ?_
  refine Rn_goto (tgt := 11) dJ9_max_f86c9_7 rfl ?_
  exact Rn_lreturn rfl dJ9_max_f86c9_11 k
theorem BJ9_max_f86c9_10 {d bc bs : Nat} {h : aH} {n : Nat} {Q : aQ} {x0 x2 : Int} (k : Q (some (vL x2)) h n) : Rn d (bc) (bs) mJ9_max_f86c9 10 [some (vL x0), none, some (vL x2), none] [] h n Q := by
  refine Rn_lload_n dJ9_max_f86c9_10 rfl rfl ?_
  exact Rn_lreturn rfl dJ9_max_f86c9_11 k
theorem dJ9_min_7cf53_0 : decode cJ9_min_7cf53 0 = .ok (.iload_n 0, 1) := by decide +kernel
theorem dJ9_min_7cf53_1 : decode cJ9_min_7cf53 1 = .ok (.iload_n 1, 1) := by decide +kernel
theorem dJ9_min_7cf53_2 : decode cJ9_min_7cf53 2 = .ok (.if_icmp .gt 7, 3) := by decide +kernel
theorem dJ9_min_7cf53_5 : decode cJ9_min_7cf53 5 = .ok (.iload_n 0, 1) := by decide +kernel
theorem dJ9_min_7cf53_6 : decode cJ9_min_7cf53 6 = .ok (.goto 4, 3) := by decide +kernel
theorem dJ9_min_7cf53_9 : decode cJ9_min_7cf53 9 = .ok (.iload_n 1, 1) := by decide +kernel
theorem dJ9_min_7cf53_10 : decode cJ9_min_7cf53 10 = .ok (.ireturn, 1) := by decide +kernel
theorem BJ9_min_7cf53_0 {d bc bs : Nat} {h : aH} {n : Nat} {Q : aQ} {x0 x1 : Int} (kt : x1 < x0 → Rn d bc bs mJ9_min_7cf53 9 [some (vI x0), some (vI x1)] [] h n Q) (kf : x0 ≤ x1 → Rn d bc bs mJ9_min_7cf53 5 [some (vI x0), some (vI x1)] [] h n Q) : Rn d (bc) (bs) mJ9_min_7cf53 0 [some (vI x0), some (vI x1)] [] h n Q := by
  refine Rn_iload_n dJ9_min_7cf53_0 rfl rfl ?_
  refine Rn_iload_n dJ9_min_7cf53_1 rfl rfl ?_
  refine Rn_icmpgt (tgt := 9) dJ9_min_7cf53_2 rfl ?_ ?_
  · exact kt
  · exact kf
theorem BJ9_min_7cf53_5 {d bc bs : Nat} {h : aH} {n : Nat} {Q : aQ} {x0 x1 : Int} (k : Q (some (vI x0)) h n) : Rn d (bc) (bs) mJ9_min_7cf53 5 [some (vI x0), some (vI x1)] [] h n Q := by
  refine Rn_iload_n dJ9_min_7cf53_5 rfl rfl ?_
  refine Rn_goto (tgt := 10) dJ9_min_7cf53_6 rfl ?_
  exact Rn_ireturn rfl dJ9_min_7cf53_10 k
theorem BJ9_min_7cf53_9 {d bc bs : Nat} {h : aH} {n : Nat} {Q : aQ} {x0 x1 : Int} (k : Q (some (vI x1)) h n) : Rn d (bc) (bs) mJ9_min_7cf53 9 [some (vI x0), some (vI x1)] [] h n Q := by
  refine Rn_iload_n dJ9_min_7cf53_9 rfl rfl ?_
  exact Rn_ireturn rfl dJ9_min_7cf53_10 k
theorem dJ9_min_f86c9_0 : decode cJ9_min_f86c9 0 = .ok (.lload_n 0, 1) := by decide +kernel
theorem dJ9_min_f86c9_1 : decode cJ9_min_f86c9 1 = .ok (.lload_n 2, 1) := by decide +kernel
theorem dJ9_min_f86c9_2 : decode cJ9_min_f86c9 2 = .ok (.lcmp, 1) := by decide +kernel
theorem dJ9_min_f86c9_3 : decode cJ9_min_f86c9 3 = .ok (.ifCond .gt 7, 3) := by decide +kernel
theorem dJ9_min_f86c9_6 : decode cJ9_min_f86c9 6 = .ok (.lload_n 0, 1) := by decide +kernel
theorem dJ9_min_f86c9_7 : decode cJ9_min_f86c9 7 = .ok (.goto 4, 3) := by decide +kernel
theorem dJ9_min_f86c9_10 : decode cJ9_min_f86c9 10 = .ok (.lload_n 2, 1) := by decide +kernel
theorem dJ9_min_f86c9_11 : decode cJ9_min_f86c9 11 = .ok (.lreturn, 1) := by decide +kernel
theorem BJ9_min_f86c9_0 {d bc bs : Nat} {h : aH} {n : Nat} {Q : aQ} {x0 x2 : Int} (kt : x2 < x0 → Rn d bc bs mJ9_min_f86c9 10 [some (vL x0), none, some (vL x2), none] [] h n Q) (kf : x0 ≤ x2 → Rn d bc bs mJ9_min_f86c9 6 [some (vL x0), none, some (vL x2), none] [] h n Q) : Rn d (bc) (bs) mJ9_min_f86c9 0 [some (vL x0), none, some (vL x2), none] [] h n Q := by
  refine Rn_lload_n dJ9_min_f86c9_0 rfl rfl ?_
  refine Rn_lload_n dJ9_min_f86c9_1 rfl rfl ?_
  refine Rn_lcmp dJ9_min_f86c9_2 ?_
  refine Rn_ifgt (tgt := 10) dJ9_min_f86c9_3 rfl ?_ ?_
  · exact fun q => kt (lc_gt q)
  · exact fun q => kf (lc_le q)
theorem BJ9_min_f86c9_6 {d bc bs : Nat} {h : aH} {n : Nat} {Q : aQ} {x0 x2 : Int} (k : Q (some (vL x0)) h n) : Rn d (bc) (bs) mJ9_min_f86c9 6 [some (vL x0), none, some (vL x2), none] [] h n Q := by
  refine Rn_lload_n dJ9_min_f86c9_6 rfl rfl ?_
  refine Rn_goto (tgt := 11) dJ9_min_f86c9_7 rfl ?_
  exact Rn_lreturn rfl dJ9_min_f86c9_11 k
theorem BJ9_min_f86c9_10 {d bc bs : Nat} {h : aH} {n : Nat} {Q : aQ} {x0 x2 : Int} (k : Q (some (vL x2)) h n) : Rn d (bc) (bs) mJ9_min_f86c9 10 [some (vL x0), none, some (vL x2), none] [] h n Q := by
  refine Rn_lload_n dJ9_min_f86c9_10 rfl rfl ?_
  exact Rn_lreturn rfl dJ9_min_f86c9_11 k
theorem dJ0_length_8abf5_0 : decode cJ0_length_8abf5 0 = .ok (.aload_n 0, 1) := by decide +kernel
theorem dJ0_length_8abf5_1 : decode cJ0_length_8abf5 1 = .ok (.getfield 9, 3) := by decide +kernel
theorem dJ0_length_8abf5_4 : decode cJ0_length_8abf5 4 = .ok (.arraylength, 1) := by decide +kernel
theorem dJ0_length_8abf5_5 : decode cJ0_length_8abf5 5 = .ok (.aload_n 0, 1) := by decide +kernel
theorem dJ0_length_8abf5_6 : decode cJ0_length_8abf5 6 = .ok (.invokevirtual 335, 3) := by decide +kernel
theorem dJ0_length_8abf5_9 : decode cJ0_length_8abf5 9 = .ok (.ishr, 1) := by decide +kernel
theorem dJ0_length_8abf5_10 : decode cJ0_length_8abf5 10 = .ok (.ireturn, 1) := by decide +kernel
theorem BJ0_length_8abf5_0 {d bc bs : Nat} {h : aH} {n : Nat} {Q : aQ} (k : Rn d 0 0 mJ0_coder_7d493 0 [some (vT)] [] h n (fun v h1 n1 => Rn (d + 1) bc bs mJ0_length_8abf5 9 [some (vT)] (v.toList ++ [vI 129]) h1 n1 Q)) : Rn (d + 1) (bc) (bs) mJ0_length_8abf5 0 [some (vT)] [] h n Q := by
  refine Rn_aload_n dJ0_length_8abf5_0 rfl rfl rfl ?_
  refine Rn_gvalue dJ0_length_8abf5_1 wd_2039 ?_
  refine Rn_alenB dJ0_length_8abf5_4 ?_
  refine Rn_aload_n dJ0_length_8abf5_5 rfl rfl rfl ?_
  exact Rn_callT (avs := []) (st := [vI 129]) (bc1 := 0) (bs1 := 0) (bc2 := bc) (bs2 := bs) fx_J0_coder_7d493 rfl dJ0_length_8abf5_6 wd_573 wd_574 wd_575 rfl (Nat.le_of_ble_eq_true rfl) (Nat.le_of_ble_eq_true rfl) (by omega) (by omega) (ls1 := [some (vT)]) rfl k
theorem BJ0_length_8abf5_9 {d bc bs : Nat} {h : aH} {n : Nat} {Q : aQ} {s0 s1 : Int} (k : Q (some (vI (shr32 s0 s1))) h n) : Rn d (bc) (bs) mJ0_length_8abf5 9 [some (vT)] [vI s1, vI s0] h n Q := by
  refine Rn_ishr dJ0_length_8abf5_9 ?_
  exact Rn_ireturn rfl dJ0_length_8abf5_10 k
theorem dJ0_charAt_5068e_0 : decode cJ0_charAt_5068e 0 = .ok (.aload_n 0, 1) := by decide +kernel
theorem dJ0_charAt_5068e_1 : decode cJ0_charAt_5068e 1 = .ok (.invokevirtual 492, 3) := by decide +kernel
theorem dJ0_charAt_5068e_4 : decode cJ0_charAt_5068e 4 = .ok (.ifCond .eq 12, 3) := by decide +kernel
theorem dJ0_charAt_5068e_7 : decode cJ0_charAt_5068e 7 = .ok (.aload_n 0, 1) := by decide +kernel
theorem dJ0_charAt_5068e_8 : decode cJ0_charAt_5068e 8 = .ok (.getfield 9, 3) := by decide +kernel
theorem dJ0_charAt_5068e_11 : decode cJ0_charAt_5068e 11 = .ok (.iload_n 1, 1) := by decide +kernel
theorem dJ0_charAt_5068e_12 : decode cJ0_charAt_5068e 12 = .ok (.invokestatic 495, 3) := by decide +kernel
theorem dJ0_charAt_5068e_15 : decode cJ0_charAt_5068e 15 = .ok (.ireturn, 1) := by decide +kernel
theorem dJ0_charAt_5068e_16 : decode cJ0_charAt_5068e 16 = .ok (.aload_n 0, 1) := by decide +kernel
theorem dJ0_charAt_5068e_17 : decode cJ0_charAt_5068e 17 = .ok (.getfield 9, 3) := by decide +kernel
theorem dJ0_charAt_5068e_20 : decode cJ0_charAt_5068e 20 = .ok (.iload_n 1, 1) := by decide +kernel
theorem dJ0_charAt_5068e_21 : decode cJ0_charAt_5068e 21 = .ok (.invokestatic 498, 3) := by decide +kernel
theorem dJ0_charAt_5068e_24 : decode cJ0_charAt_5068e 24 = .ok (.ireturn, 1) := by decide +kernel
theorem BJ0_charAt_5068e_0 {d bc bs : Nat} {h : aH} {n : Nat} {Q : aQ} {x1 : Int} (k : Rn d 0 0 mJ0_isLatin1_aae02 0 [some (vT)] [] h n (fun v h1 n1 => Rn (d + 1) bc bs mJ0_charAt_5068e 4 [some (vT), some (vI x1)] (v.toList ++ []) h1 n1 Q)) : Rn (d + 1) (bc) (bs) mJ0_charAt_5068e 0 [some (vT), some (vI x1)] [] h n Q := by
  refine Rn_aload_n dJ0_charAt_5068e_0 rfl rfl rfl ?_
  exact Rn_callT (avs := []) (st := []) (bc1 := 0) (bs1 := 0) (bc2 := bc) (bs2 := bs) fx_J0_isLatin1_aae02 rfl dJ0_charAt_5068e_1 wd_583 wd_584 wd_585 rfl (Nat.le_of_ble_eq_true rfl) (Nat.le_of_ble_eq_true rfl) (by omega) (by omega) (ls1 := [some (vT)]) rfl k
theorem BJ0_charAt_5068e_4 {d bc bs : Nat} {h : aH} {n : Nat} {Q : aQ} {x1 s0 : Int} (kt : s0 = 0 → Rn d bc bs mJ0_charAt_5068e 16 [some (vT), some (vI x1)] [] h n Q) (kf : s0 ≠ 0 → Rn d bc bs mJ0_charAt_5068e 7 [some (vT), some (vI x1)] [] h n Q) : Rn d (bc) (bs) mJ0_charAt_5068e 4 [some (vT), some (vI x1)] [vI s0] h n Q := by
  refine Rn_ifeq (tgt := 16) dJ0_charAt_5068e_4 rfl ?_ ?_
  · exact kt
  · exact kf
theorem BJ0_charAt_5068e_7 {d bc bs : Nat} {h : aH} {n : Nat} {Q : aQ} {x1 : Int} (k : Rn d 0 0 mJ1_charAt_3b067 0 [some (vB), some (vI x1)] [] h n (fun v h1 n1 => Rn (d + 1) bc bs mJ0_charAt_5068e 15 [some (vT), some (vI x1)] (v.toList ++ []) h1 n1 Q)) : Rn (d + 1) (bc) (bs) mJ0_charAt_5068e 7 [some (vT), some (vI x1)] [] h n Q := by
  refine Rn_aload_n dJ0_charAt_5068e_7 rfl rfl rfl ?_
  refine Rn_gvalue dJ0_charAt_5068e_8 wd_2039 ?_
  refine Rn_iload_n dJ0_charAt_5068e_11 rfl rfl ?_
  exact Rn_callS (avs := [vB, vI x1]) (st := []) (bc1 := 0) (bs1 := 0) (bc2 := bc) (bs2 := bs) fx_J1_charAt_3b067 dJ0_charAt_5068e_12 (Or.inl wd_587) wd_588 rfl (Nat.le_of_ble_eq_true rfl) (Nat.le_of_ble_eq_true rfl) (by omega) (by omega) (ls1 := [some (vB), some (vI x1)]) rfl k
theorem BJ0_charAt_5068e_15 {d bc bs : Nat} {h : aH} {n : Nat} {Q : aQ} {x1 s0 : Int} (i1 : 0 ≤ s0) (j2 : s0 < 256) (k : Q (some (vI s0)) h n) : Rn d (bc) (bs) mJ0_charAt_5068e 15 [some (vT), some (vI x1)] [vI s0] h n Q := by
  exact Rn_creturn rfl dJ0_charAt_5068e_15 i1 j2 k
theorem dJ0_coder_7d493_0 : decode cJ0_coder_7d493 0 = .ok (.getstatic 38, 3) := by decide +kernel
theorem dJ0_coder_7d493_3 : decode cJ0_coder_7d493 3 = .ok (.ifCond .eq 10, 3) := by decide +kernel
theorem dJ0_coder_7d493_6 : decode cJ0_coder_7d493 6 = .ok (.aload_n 0, 1) := by decide +kernel
theorem dJ0_coder_7d493_7 : decode cJ0_coder_7d493 7 = .ok (.getfield 15, 3) := by decide +kernel
theorem dJ0_coder_7d493_10 : decode cJ0_coder_7d493 10 = .ok (.goto 4, 3) := by decide +kernel
theorem dJ0_coder_7d493_13 : decode cJ0_coder_7d493 13 = .ok (.iconst 1, 1) := by decide +kernel
theorem dJ0_coder_7d493_14 : decode cJ0_coder_7d493 14 = .ok (.ireturn, 1) := by decide +kernel
theorem BJ0_coder_7d493_0 {d bc bs : Nat} {h : aH} {n : Nat} {Q : aQ} (kt : (1 : Int) = 0 → Rn d bc bs mJ0_coder_7d493 13 [some (vT)] [] h n Q) (kf : (1 : Int) ≠ 0 → Rn d bc bs mJ0_coder_7d493 6 [some (vT)] [] h n Q) : Rn d (bc) (bs) mJ0_coder_7d493 0 [some (vT)] [] h n Q := by
  refine Rn_getsC dJ0_coder_7d493_0 wd_577 ?_
  refine Rn_ifeq (tgt := 13) dJ0_coder_7d493_3 rfl ?_ ?_
  · exact kt
  · exact kf
theorem BJ0_coder_7d493_6 {d bc bs : Nat} {h : aH} {n : Nat} {Q : aQ} (k : Q (some (vI 0)) h n) : Rn d (bc) (bs) mJ0_coder_7d493 6 [some (vT)] [] h n Q := by
  refine Rn_aload_n dJ0_coder_7d493_6 rfl rfl rfl ?_
  refine Rn_gcoder dJ0_coder_7d493_7 wd_2040 ?_
  refine Rn_goto (tgt := 14) dJ0_coder_7d493_10 rfl ?_
  exact Rn_breturn rfl dJ0_coder_7d493_14 (by decide) (by decide) k
theorem BJ0_coder_7d493_13 {d bc bs : Nat} {h : aH} {n : Nat} {Q : aQ} (k : Q (some (vI 1)) h n) : Rn d (bc) (bs) mJ0_coder_7d493 13 [some (vT)] [] h n Q := by
  refine Rn_iconst dJ0_coder_7d493_13 rfl ?_
  exact Rn_breturn rfl dJ0_coder_7d493_14 (by decide) (by decide) k
theorem dJ0_isLatin1_aae02_0 : decode cJ0_isLatin1_aae02 0 = .ok (.getstatic 38, 3) := by decide +kernel
theorem dJ0_isLatin1_aae02_3 : decode cJ0_isLatin1_aae02 3 = .ok (.ifCond .eq 14, 3) := by decide +kernel
theorem dJ0_isLatin1_aae02_6 : decode cJ0_isLatin1_aae02 6 = .ok (.aload_n 0, 1) := by decide +kernel
theorem dJ0_isLatin1_aae02_7 : decode cJ0_isLatin1_aae02 7 = .ok (.getfield 15, 3) := by decide +kernel
theorem dJ0_isLatin1_aae02_10 : decode cJ0_isLatin1_aae02 10 = .ok (.ifCond .ne 7, 3) := by decide +kernel
theorem dJ0_isLatin1_aae02_13 : decode cJ0_isLatin1_aae02 13 = .ok (.iconst 1, 1) := by decide +kernel
theorem dJ0_isLatin1_aae02_14 : decode cJ0_isLatin1_aae02 14 = .ok (.goto 4, 3) := by decide +kernel
theorem dJ0_isLatin1_aae02_17 : decode cJ0_isLatin1_aae02 17 = .ok (.iconst 0, 1) := by decide +kernel
theorem dJ0_isLatin1_aae02_18 : decode cJ0_isLatin1_aae02 18 = .ok (.ireturn, 1) := by decide +kernel
theorem BJ0_isLatin1_aae02_0 {d bc bs : Nat} {h : aH} {n : Nat} {Q : aQ} (kt : (1 : Int) = 0 → Rn d bc bs mJ0_isLatin1_aae02 17 [some (vT)] [] h n Q) (kf : (1 : Int) ≠ 0 → Rn d bc bs mJ0_isLatin1_aae02 6 [some (vT)] [] h n Q) : Rn d (bc) (bs) mJ0_isLatin1_aae02 0 [some (vT)] [] h n Q := by
  refine Rn_getsC dJ0_isLatin1_aae02_0 wd_577 ?_
  refine Rn_ifeq (tgt := 17) dJ0_isLatin1_aae02_3 rfl ?_ ?_
  · exact kt
  · exact kf
theorem BJ0_isLatin1_aae02_6 {d bc bs : Nat} {h : aH} {n : Nat} {Q : aQ} (kt : (0 : Int) ≠ 0 → Rn d bc bs mJ0_isLatin1_aae02 17 [some (vT)] [] h n Q) (kf : (0 : Int) = 0 → Rn d bc bs mJ0_isLatin1_aae02 13 [some (vT)] [] h n Q) : Rn d (bc) (bs) mJ0_isLatin1_aae02 6 [some (vT)] [] h n Q := by
  refine Rn_aload_n dJ0_isLatin1_aae02_6 rfl rfl rfl ?_
  refine Rn_gcoder dJ0_isLatin1_aae02_7 wd_2040 ?_
  refine Rn_ifne (tgt := 17) dJ0_isLatin1_aae02_10 rfl ?_ ?_
  · exact kt
  · exact kf
theorem BJ0_isLatin1_aae02_13 {d bc bs : Nat} {h : aH} {n : Nat} {Q : aQ} (k : Q (some (vI 1)) h n) : Rn d (bc) (bs) mJ0_isLatin1_aae02 13 [some (vT)] [] h n Q := by
  refine Rn_iconst dJ0_isLatin1_aae02_13 rfl ?_
  refine Rn_goto (tgt := 18) dJ0_isLatin1_aae02_14 rfl ?_
  exact Rn_zreturn rfl dJ0_isLatin1_aae02_18 (by decide) k
theorem BJ0_isLatin1_aae02_17 {d bc bs : Nat} {h : aH} {n : Nat} {Q : aQ} (k : Q (some (vI 0)) h n) : Rn d (bc) (bs) mJ0_isLatin1_aae02 17 [some (vT)] [] h n Q := by
  refine Rn_iconst dJ0_isLatin1_aae02_17 rfl ?_
  exact Rn_zreturn rfl dJ0_isLatin1_aae02_18 (by decide) k
theorem dJ0_checkIndex_df160_0 : decode cJ0_checkIndex_df160 0 = .ok (.iload_n 0, 1) := by decide +kernel
theorem dJ0_checkIndex_df160_1 : decode cJ0_checkIndex_df160 1 = .ok (.iload_n 1, 1) := by decide +kernel
theorem dJ0_checkIndex_df160_2 : decode cJ0_checkIndex_df160 2 = .ok (.getstatic 1053, 3) := by decide +kernel
theorem dJ0_checkIndex_df160_5 : decode cJ0_checkIndex_df160 5 = .ok (.invokestatic 1059, 3) := by decide +kernel
theorem dJ0_checkIndex_df160_8 : decode cJ0_checkIndex_df160 8 = .ok (.pop, 1) := by decide +kernel
theorem dJ0_checkIndex_df160_9 : decode cJ0_checkIndex_df160 9 = .ok (.return_, 1) := by decide +kernel
theorem BJ0_checkIndex_df160_0 {d bc bs : Nat} {h : aH} {n : Nat} {Q : aQ} {x0 x1 : Int} (k : Rn d 0 0 mJ3_checkIndex_8e157 0 [some (vI x0), some (vI x1), some (vO)] [] h n (fun v h1 n1 => Rn (d + 1) bc bs mJ0_checkIndex_df160 8 [some (vI x0), some (vI x1)] (v.toList ++ []) h1 n1 Q)) : Rn (d + 1) (bc) (bs) mJ0_checkIndex_df160 0 [some (vI x0), some (vI x1)] [] h n Q := by
  refine Rn_iload_n dJ0_checkIndex_df160_0 rfl rfl ?_
  refine Rn_iload_n dJ0_checkIndex_df160_1 rfl rfl ?_
  refine Rn_getsO dJ0_checkIndex_df160_2 wd_593 ?_
  exact Rn_callS (avs := [vI x0, vI x1, vO]) (st := []) (bc1 := 0) (bs1 := 0) (bc2 := bc) (bs2 := bs) fx_J3_checkIndex_8e157 dJ0_checkIndex_df160_5 (Or.inl wd_595) wd_596 rfl (Nat.le_of_ble_eq_true rfl) (Nat.le_of_ble_eq_true rfl) (by omega) (by omega) (ls1 := [some (vI x0), some (vI x1), some (vO)]) rfl k
theorem BJ0_checkIndex_df160_8 {d bc bs : Nat} {h : aH} {n : Nat} {Q : aQ} {x0 x1 s0 : Int} (k : Q none h n) : Rn d (bc) (bs) mJ0_checkIndex_df160 8 [some (vI x0), some (vI x1)] [vI s0] h n Q := by
  refine Rn_pop dJ0_checkIndex_df160_8 rfl ?_
  exact Rn_return rfl dJ0_checkIndex_df160_9 k
theorem dJ1_charAt_3b067_0 : decode cJ1_charAt_3b067 0 = .ok (.iload_n 1, 1) := by decide +kernel
theorem dJ1_charAt_3b067_1 : decode cJ1_charAt_3b067 1 = .ok (.aload_n 0, 1) := by decide +kernel
theorem dJ1_charAt_3b067_2 : decode cJ1_charAt_3b067 2 = .ok (.arraylength, 1) := by decide +kernel
theorem dJ1_charAt_3b067_3 : decode cJ1_charAt_3b067 3 = .ok (.invokestatic 9, 3) := by decide +kernel
theorem dJ1_charAt_3b067_6 : decode cJ1_charAt_3b067 6 = .ok (.aload_n 0, 1) := by decide +kernel
theorem dJ1_charAt_3b067_7 : decode cJ1_charAt_3b067 7 = .ok (.iload_n 1, 1) := by decide +kernel
theorem dJ1_charAt_3b067_8 : decode cJ1_charAt_3b067 8 = .ok (.baload, 1) := by decide +kernel
theorem dJ1_charAt_3b067_9 : decode cJ1_charAt_3b067 9 = .ok (.sipush 255, 3) := by decide +kernel
theorem dJ1_charAt_3b067_12 : decode cJ1_charAt_3b067 12 = .ok (.iand, 1) := by decide +kernel
theorem dJ1_charAt_3b067_13 : decode cJ1_charAt_3b067 13 = .ok (.i2c, 1) := by decide +kernel
theorem dJ1_charAt_3b067_14 : decode cJ1_charAt_3b067 14 = .ok (.ireturn, 1) := by decide +kernel
theorem BJ1_charAt_3b067_0 {d bc bs : Nat} {h : aH} {n : Nat} {Q : aQ} {x1 : Int} (k : Rn d 0 0 mJ0_checkIndex_df160 0 [some (vI x1), some (vI 129)] [] h n (fun v h1 n1 => Rn (d + 1) bc bs mJ1_charAt_3b067 6 [some (vB), some (vI x1)] (v.toList ++ []) h1 n1 Q)) : Rn (d + 1) (bc) (bs) mJ1_charAt_3b067 0 [some (vB), some (vI x1)] [] h n Q := by
  refine Rn_iload_n dJ1_charAt_3b067_0 rfl rfl ?_
  refine Rn_aload_n dJ1_charAt_3b067_1 rfl rfl rfl ?_
  refine Rn_alenB dJ1_charAt_3b067_2 ?_
  exact Rn_callS (avs := [vI x1, vI 129]) (st := []) (bc1 := 0) (bs1 := 0) (bc2 := bc) (bs2 := bs) fx_J0_checkIndex_df160 dJ1_charAt_3b067_3 (Or.inl wd_590) wd_591 rfl (Nat.le_of_ble_eq_true rfl) (Nat.le_of_ble_eq_true rfl) (by omega) (by omega) (ls1 := [some (vI x1), some (vI 129)]) rfl k
theorem BJ1_charAt_3b067_6 {d bc bs : Nat} {h : aH} {n : Nat} {Q : aQ} {x1 v1 : Int} (i2 : 0 ≤ x1) (g3 : aWordsL[(x1).toNat]? = some v1) (i4 : 0 ≤ and32 v1 255) (j5 : and32 v1 255 < 256) (k : Q (some (vI (and32 v1 255))) h n) : Rn d (bc) (bs) mJ1_charAt_3b067 6 [some (vB), some (vI x1)] [] h n Q := by
  refine Rn_aload_n dJ1_charAt_3b067_6 rfl rfl rfl ?_
  refine Rn_iload_n dJ1_charAt_3b067_7 rfl rfl ?_
  refine Rn_baloadB dJ1_charAt_3b067_8 i2 g3 ?_
  refine Rn_sipush dJ1_charAt_3b067_9 rfl ?_
  refine Rn_iand dJ1_charAt_3b067_12 ?_
  refine Rn_i2c dJ1_charAt_3b067_13 i4 j5 ?_
  exact Rn_creturn rfl dJ1_charAt_3b067_14 i4 j5 k
theorem dJ7_fill_53178_0 : decode cJ7_fill_53178 0 = .ok (.iconst 0, 1) := by decide +kernel
theorem dJ7_fill_53178_1 : decode cJ7_fill_53178 1 = .ok (.istore_n 2, 1) := by decide +kernel
theorem dJ7_fill_53178_2 : decode cJ7_fill_53178 2 = .ok (.aload_n 0, 1) := by decide +kernel
theorem dJ7_fill_53178_3 : decode cJ7_fill_53178 3 = .ok (.arraylength, 1) := by decide +kernel
theorem dJ7_fill_53178_4 : decode cJ7_fill_53178 4 = .ok (.istore_n 3, 1) := by decide +kernel
theorem dJ7_fill_53178_5 : decode cJ7_fill_53178 5 = .ok (.iload_n 2, 1) := by decide +kernel
theorem dJ7_fill_53178_6 : decode cJ7_fill_53178 6 = .ok (.iload_n 3, 1) := by decide +kernel
theorem dJ7_fill_53178_7 : decode cJ7_fill_53178 7 = .ok (.if_icmp .ge 13, 3) := by decide +kernel
theorem dJ7_fill_53178_10 : decode cJ7_fill_53178 10 = .ok (.aload_n 0, 1) := by decide +kernel
theorem dJ7_fill_53178_11 : decode cJ7_fill_53178 11 = .ok (.iload_n 2, 1) := by decide +kernel
theorem dJ7_fill_53178_12 : decode cJ7_fill_53178 12 = .ok (.iload_n 1, 1) := by decide +kernel
theorem dJ7_fill_53178_13 : decode cJ7_fill_53178 13 = .ok (.iastore, 1) := by decide +kernel
theorem dJ7_fill_53178_14 : decode cJ7_fill_53178 14 = .ok (.iinc 2 1, 3) := by decide +kernel
theorem dJ7_fill_53178_17 : decode cJ7_fill_53178 17 = .ok (.goto (-12), 3) := by decide +kernel
theorem dJ7_fill_53178_20 : decode cJ7_fill_53178 20 = .ok (.return_, 1) := by decide +kernel
theorem BJ7_fill_53178_0 {d bc bs : Nat} {h : aH} {n : Nat} {Q : aQ} {ar0 : Nat} {x1 : Int} {l2 l3 : Option aV} {w1 : List Int} (h2 : h ar0 = cI w1) (y3 : w1.length < 2147483648) (z4 : ar0 ≠ 0) (k : Rn d bc bs mJ7_fill_53178 5 [some (vR (some ar0)), some (vI x1), some (vI 0), some (vI (w1.length : Int))] [] h n Q) : Rn d (bc) (bs) mJ7_fill_53178 0 [some (vR (some ar0)), some (vI x1), l2, l3] [] h n Q := by
  refine Rn_iconst dJ7_fill_53178_0 rfl ?_
  refine Rn_istore_n dJ7_fill_53178_1 rfl (Nat.le_of_ble_eq_true rfl) rfl rfl ?_
  refine Rn_aload_n dJ7_fill_53178_2 rfl rfl rfl ?_
  refine Rn_alenI dJ7_fill_53178_3 z4 h2 y3 ?_
  refine Rn_istore_n dJ7_fill_53178_4 rfl (Nat.le_of_ble_eq_true rfl) rfl rfl ?_
  exact k
theorem BJ7_fill_53178_5 {d bc bs : Nat} {h : aH} {n : Nat} {Q : aQ} {r0 : Option Nat} {x1 x2 x3 : Int} (kt : x3 ≤ x2 → Rn d bc bs mJ7_fill_53178 20 [some (vR r0), some (vI x1), some (vI x2), some (vI x3)] [] h n Q) (kf : x2 < x3 → Rn d bc bs mJ7_fill_53178 10 [some (vR r0), some (vI x1), some (vI x2), some (vI x3)] [] h n Q) : Rn d (bc) (bs) mJ7_fill_53178 5 [some (vR r0), some (vI x1), some (vI x2), some (vI x3)] [] h n Q := by
  refine Rn_iload_n dJ7_fill_53178_5 rfl rfl ?_
  refine Rn_iload_n dJ7_fill_53178_6 rfl rfl ?_
  refine Rn_icmpge (tgt := 20) dJ7_fill_53178_7 rfl ?_ ?_
  · exact kt
  · exact kf
theorem BJ7_fill_53178_10 {d bc bs : Nat} {h : aH} {n : Nat} {Q : aQ} {ar0 : Nat} {x1 x2 x3 : Int} {w1 : List Int} (h2 : h ar0 = cI w1) (i3 : 0 ≤ x2) (j4 : x2 < w1.length) (z5 : ar0 ≠ 0) (k : Rn d bc bs mJ7_fill_53178 14 [some (vR (some ar0)), some (vI x1), some (vI x2), some (vI x3)] [] (up h ar0 (cI (w1.set (x2 : Int).toNat x1))) n Q) : Rn d (bc) (bs) mJ7_fill_53178 10 [some (vR (some ar0)), some (vI x1), some (vI x2), some (vI x3)] [] h n Q := by
  refine Rn_aload_n dJ7_fill_53178_10 rfl rfl rfl ?_
  refine Rn_iload_n dJ7_fill_53178_11 rfl rfl ?_
  refine Rn_iload_n dJ7_fill_53178_12 rfl rfl ?_
  refine Rn_iastore dJ7_fill_53178_13 z5 h2 i3 j4 ?_
  exact k
theorem BJ7_fill_53178_14 {d bc bs : Nat} {h : aH} {n : Nat} {Q : aQ} {r0 : Option Nat} {x1 x2 x3 : Int} (b1 : -2147483648 ≤ x2 + 1 ∧ x2 + 1 < 2147483648) (k : Rn d bc bs mJ7_fill_53178 5 [some (vR r0), some (vI x1), some (vI (x2 + 1)), some (vI x3)] [] h n Q) : Rn d (bc) (bs) mJ7_fill_53178 14 [some (vR r0), some (vI x1), some (vI x2), some (vI x3)] [] h n Q := by
  refine Rn_iinc dJ7_fill_53178_14 rfl (Nat.le_of_ble_eq_true rfl) rfl rfl rfl ?_
  rw [w32_id b1.1 b1.2]
  refine Rn_goto (tgt := 5) dJ7_fill_53178_17 rfl ?_
  exact k
theorem BJ7_fill_53178_20 {d bc bs : Nat} {h : aH} {n : Nat} {Q : aQ} {r0 : Option Nat} {x1 x2 x3 : Int} (k : Q none h n) : Rn d (bc) (bs) mJ7_fill_53178 20 [some (vR r0), some (vI x1), some (vI x2), some (vI x3)] [] h n Q := by
  exact Rn_return rfl dJ7_fill_53178_20 k
theorem dJ7_copyOf_59c91_0 : decode cJ7_copyOf_59c91 0 = .ok (.iload_n 1, 1) := by decide +kernel
theorem dJ7_copyOf_59c91_1 : decode cJ7_copyOf_59c91 1 = .ok (.aload_n 0, 1) := by decide +kernel
theorem dJ7_copyOf_59c91_2 : decode cJ7_copyOf_59c91 2 = .ok (.arraylength, 1) := by decide +kernel
theorem dJ7_copyOf_59c91_3 : decode cJ7_copyOf_59c91 3 = .ok (.if_icmp .ne 11, 3) := by decide +kernel
theorem dJ7_copyOf_59c91_6 : decode cJ7_copyOf_59c91 6 = .ok (.aload_n 0, 1) := by decide +kernel
theorem dJ7_copyOf_59c91_7 : decode cJ7_copyOf_59c91 7 = .ok (.invokevirtual 316, 3) := by decide +kernel
theorem dJ7_copyOf_59c91_10 : decode cJ7_copyOf_59c91 10 = .ok (.checkcast 317, 3) := by decide +kernel
theorem dJ7_copyOf_59c91_13 : decode cJ7_copyOf_59c91 13 = .ok (.areturn, 1) := by decide +kernel
theorem dJ7_copyOf_59c91_14 : decode cJ7_copyOf_59c91 14 = .ok (.iload_n 1, 1) := by decide +kernel
theorem dJ7_copyOf_59c91_15 : decode cJ7_copyOf_59c91 15 = .ok (.newarray .int, 2) := by decide +kernel
theorem dJ7_copyOf_59c91_17 : decode cJ7_copyOf_59c91 17 = .ok (.astore_n 2, 1) := by decide +kernel
theorem dJ7_copyOf_59c91_18 : decode cJ7_copyOf_59c91 18 = .ok (.aload_n 0, 1) := by decide +kernel
theorem dJ7_copyOf_59c91_19 : decode cJ7_copyOf_59c91 19 = .ok (.iconst 0, 1) := by decide +kernel
theorem dJ7_copyOf_59c91_20 : decode cJ7_copyOf_59c91 20 = .ok (.aload_n 2, 1) := by decide +kernel
theorem dJ7_copyOf_59c91_21 : decode cJ7_copyOf_59c91 21 = .ok (.iconst 0, 1) := by decide +kernel
theorem dJ7_copyOf_59c91_22 : decode cJ7_copyOf_59c91 22 = .ok (.aload_n 0, 1) := by decide +kernel
theorem dJ7_copyOf_59c91_23 : decode cJ7_copyOf_59c91 23 = .ok (.arraylength, 1) := by decide +kernel
theorem dJ7_copyOf_59c91_24 : decode cJ7_copyOf_59c91 24 = .ok (.iload_n 1, 1) := by decide +kernel
theorem dJ7_copyOf_59c91_25 : decode cJ7_copyOf_59c91 25 = .ok (.invokestatic 304, 3) := by decide +kernel
theorem dJ7_copyOf_59c91_28 : decode cJ7_copyOf_59c91 28 = .ok (.invokestatic 150, 3) := by decide +kernel
theorem dJ7_copyOf_59c91_31 : decode cJ7_copyOf_59c91 31 = .ok (.aload_n 2, 1) := by decide +kernel
theorem dJ7_copyOf_59c91_32 : decode cJ7_copyOf_59c91 32 = .ok (.areturn, 1) := by decide +kernel
theorem BJ7_copyOf_59c91_0 {d bc bs : Nat} {h : aH} {n : Nat} {Q : aQ} {ar0 : Nat} {x1 : Int} {l2 : Option aV} {w1 : List Int} (h2 : h ar0 = cI w1) (y3 : w1.length < 2147483648) (z4 : ar0 ≠ 0) (kt : x1 ≠ (w1.length : Int) → Rn d bc bs mJ7_copyOf_59c91 14 [some (vR (some ar0)), some (vI x1), l2] [] h n Q) (kf : x1 = (w1.length : Int) → Rn d bc bs mJ7_copyOf_59c91 6 [some (vR (some ar0)), some (vI x1), l2] [] h n Q) : Rn d (bc) (bs) mJ7_copyOf_59c91 0 [some (vR (some ar0)), some (vI x1), l2] [] h n Q := by
  refine Rn_iload_n dJ7_copyOf_59c91_0 rfl rfl ?_
  refine Rn_aload_n dJ7_copyOf_59c91_1 rfl rfl rfl ?_
  refine Rn_alenI dJ7_copyOf_59c91_2 z4 h2 y3 ?_
  refine Rn_icmpne (tgt := 14) dJ7_copyOf_59c91_3 rfl ?_ ?_
  · exact kt
  · exact kf
theorem BJ7_copyOf_59c91_6 {d bc bs : Nat} {h : aH} {n : Nat} {Q : aQ} {ar0 : Nat} {x1 : Int} {l2 : Option aV} {w1 : List Int} (h2 : h ar0 = cI w1) (z3 : ar0 ≠ 0) (k : Rn (d + 1) bc bs mJ7_copyOf_59c91 10 [some (vR (some ar0)), some (vI x1), l2] [vR (some n)] (up h n (cI w1)) (n + 1) Q) : Rn (d + 1) (bc + 1) (bs + w1.length) mJ7_copyOf_59c91 6 [some (vR (some ar0)), some (vI x1), l2] [] h n Q := by
  refine Rn_aload_n dJ7_copyOf_59c91_6 rfl rfl rfl ?_
  refine Rn_cloneI (bc := bc) (bs := bs) (by omega) (by omega) dJ7_copyOf_59c91_7 wd_722 wd_723 wd_724 wd_725 wd_726 z3 h2 (Nat.le_of_ble_eq_true rfl) ?_
  exact k
theorem BJ7_copyOf_59c91_10 {d bc bs : Nat} {h : aH} {n : Nat} {Q : aQ} {r0 : Option Nat} {x1 : Int} {l2 : Option aV} {aq0 : Nat} {w1 : List Int} (h2 : h aq0 = cI w1) (z3 : aq0 ≠ 0) (k : Q (some (vR (some aq0))) h n) : Rn d (bc) (bs) mJ7_copyOf_59c91 10 [some (vR r0), some (vI x1), l2] [vR (some aq0)] h n Q := by
  refine Rn_castI dJ7_copyOf_59c91_10 wd_728 z3 h2 ?_
  exact Rn_areturn rfl rfl dJ7_copyOf_59c91_13 k
theorem BJ7_copyOf_59c91_14 {d bc bs : Nat} {h : aH} {n : Nat} {Q : aQ} {r0 : Option Nat} {x1 : Int} {l2 : Option aV} {N1 : Nat} (e2 : x1 = (N1 : Int)) (y3 : N1 ≤ 60000000) (k : Rn d bc bs mJ7_copyOf_59c91 17 [some (vR r0), some (vI x1), l2] [vR (some n)] (up h n (cI (List.replicate N1 0))) (n + 1) Q) : Rn d (bc + 1) (bs + N1) mJ7_copyOf_59c91 14 [some (vR r0), some (vI x1), l2] [] h n Q := by
  refine Rn_iload_n dJ7_copyOf_59c91_14 rfl rfl ?_
  subst e2
  refine Rn_newarrI (N := N1) (bc := bc) (bs := bs) (by omega) (by omega) wd_181 dJ7_copyOf_59c91_15 y3 ?_
  exact k
theorem BJ7_copyOf_59c91_17 {d bc bs : Nat} {h : aH} {n : Nat} {Q : aQ} {ar0 : Nat} {x1 : Int} {l2 : Option aV} {q0 : Option Nat} {w1 : List Int} (h2 : h ar0 = cI w1) (y3 : w1.length < 2147483648) (z4 : ar0 ≠ 0) (k : Rn d 0 0 mJ9_min_7cf53 0 [some (vI (w1.length : Int)), some (vI x1)] [] h n (fun v h1 n1 => Rn (d + 1) bc bs mJ7_copyOf_59c91 28 [some (vR (some ar0)), some (vI x1), some (vR q0)] (v.toList ++ [vI 0, vR q0, vI 0, vR (some ar0)]) h1 n1 Q)) : Rn (d + 1) (bc) (bs) mJ7_copyOf_59c91 17 [some (vR (some ar0)), some (vI x1), l2] [vR q0] h n Q := by
  refine Rn_astore_n dJ7_copyOf_59c91_17 rfl (Nat.le_of_ble_eq_true rfl) rfl rfl rfl ?_
  refine Rn_aload_n dJ7_copyOf_59c91_18 rfl rfl rfl ?_
  refine Rn_iconst dJ7_copyOf_59c91_19 rfl ?_
  refine Rn_aload_n dJ7_copyOf_59c91_20 rfl rfl rfl ?_
  refine Rn_iconst dJ7_copyOf_59c91_21 rfl ?_
  refine Rn_aload_n dJ7_copyOf_59c91_22 rfl rfl rfl ?_
  refine Rn_alenI dJ7_copyOf_59c91_23 z4 h2 y3 ?_
  refine Rn_iload_n dJ7_copyOf_59c91_24 rfl rfl ?_
  exact Rn_callS (avs := [vI (w1.length : Int), vI x1]) (st := [vI 0, vR q0, vI 0, vR (some ar0)]) (bc1 := 0) (bs1 := 0) (bc2 := bc) (bs2 := bs) fx_J9_min_7cf53 dJ7_copyOf_59c91_25 (Or.inl wd_729) wd_559 rfl (Nat.le_of_ble_eq_true rfl) (Nat.le_of_ble_eq_true rfl) (by omega) (by omega) (ls1 := [some (vI (w1.length : Int)), some (vI x1)]) rfl k
theorem BJ7_copyOf_59c91_28 {d bc bs : Nat} {h : aH} {n : Nat} {Q : aQ} {r0 r2 : Option Nat} {x1 s1 s3 s4 : Int} {aq0 aq2 : Nat} {w1 w3 : List Int} (h2 : h aq0 = cI w1) (h4 : h aq2 = cI w3) (i5 : 0 ≤ s1) (i6 : 0 ≤ s3) (i7 : 0 ≤ s4) (j8 : s1 + s4 ≤ w1.length) (j9 : s3 + s4 ≤ w3.length) (z10 : aq0 ≠ 0) (z11 : aq2 ≠ 0) (k : Rn (d + 1) bc bs mJ7_copyOf_59c91 31 [some (vR r0), some (vI x1), some (vR r2)] [] (up h aq2 (cI (aCpy w1 w3 (s1 : Int).toNat (s3 : Int).toNat (s4 : Int).toNat))) n Q) : Rn (d + 1) (bc) (bs) mJ7_copyOf_59c91 28 [some (vR r0), some (vI x1), some (vR r2)] [vI s4, vI s3, vR (some aq2), vI s1, vR (some aq0)] h n Q := by
  refine Rn_arraycopy dJ7_copyOf_59c91_28 wd_730 wd_732 wd_731 wd_141 z10 z11 h2 h4 i5 i6 i7 j8 j9 (Nat.le_of_ble_eq_true rfl) ?_
  exact k
theorem BJ7_copyOf_59c91_31 {d bc bs : Nat} {h : aH} {n : Nat} {Q : aQ} {r0 r2 : Option Nat} {x1 : Int} (k : Q (some (vR r2)) h n) : Rn d (bc) (bs) mJ7_copyOf_59c91 31 [some (vR r0), some (vI x1), some (vR r2)] [] h n Q := by
  refine Rn_aload_n dJ7_copyOf_59c91_31 rfl rfl rfl ?_
  exact Rn_areturn rfl rfl dJ7_copyOf_59c91_32 k
theorem dJ3_checkIndex_8e157_0 : decode cJ3_checkIndex_8e157 0 = .ok (.iload_n 0, 1) := by decide +kernel
theorem dJ3_checkIndex_8e157_1 : decode cJ3_checkIndex_8e157 1 = .ok (.ifCond .lt 8, 3) := by decide +kernel
theorem dJ3_checkIndex_8e157_4 : decode cJ3_checkIndex_8e157 4 = .ok (.iload_n 0, 1) := by decide +kernel
theorem dJ3_checkIndex_8e157_5 : decode cJ3_checkIndex_8e157 5 = .ok (.iload_n 1, 1) := by decide +kernel
theorem dJ3_checkIndex_8e157_6 : decode cJ3_checkIndex_8e157 6 = .ok (.if_icmp .lt 10, 3) := by decide +kernel
theorem dJ3_checkIndex_8e157_9 : decode cJ3_checkIndex_8e157 9 = .ok (.aload_n 2, 1) := by decide +kernel
theorem dJ3_checkIndex_8e157_10 : decode cJ3_checkIndex_8e157 10 = .ok (.iload_n 0, 1) := by decide +kernel
theorem dJ3_checkIndex_8e157_11 : decode cJ3_checkIndex_8e157 11 = .ok (.iload_n 1, 1) := by decide +kernel
theorem dJ3_checkIndex_8e157_12 : decode cJ3_checkIndex_8e157 12 = .ok (.invokestatic 95, 3) := by decide +kernel
theorem dJ3_checkIndex_8e157_15 : decode cJ3_checkIndex_8e157 15 = .ok (.athrow, 1) := by decide +kernel
theorem dJ3_checkIndex_8e157_16 : decode cJ3_checkIndex_8e157 16 = .ok (.iload_n 0, 1) := by decide +kernel
theorem dJ3_checkIndex_8e157_17 : decode cJ3_checkIndex_8e157 17 = .ok (.ireturn, 1) := by decide +kernel
theorem BJ3_checkIndex_8e157_0 {d bc bs : Nat} {h : aH} {n : Nat} {Q : aQ} {x0 x1 : Int} (kt : x0 < 0 → Rn d bc bs mJ3_checkIndex_8e157 9 [some (vI x0), some (vI x1), some (vO)] [] h n Q) (kf : 0 ≤ x0 → Rn d bc bs mJ3_checkIndex_8e157 4 [some (vI x0), some (vI x1), some (vO)] [] h n Q) : Rn d (bc) (bs) mJ3_checkIndex_8e157 0 [some (vI x0), some (vI x1), some (vO)] [] h n Q := by
  refine Rn_iload_n dJ3_checkIndex_8e157_0 rfl rfl ?_
  refine Rn_iflt (tgt := 9) dJ3_checkIndex_8e157_1 rfl ?_ ?_
  · exact kt
  · exact kf
theorem BJ3_checkIndex_8e157_4 {d bc bs : Nat} {h : aH} {n : Nat} {Q : aQ} {x0 x1 : Int} (kt : x0 < x1 → Rn d bc bs mJ3_checkIndex_8e157 16 [some (vI x0), some (vI x1), some (vO)] [] h n Q) (kf : x1 ≤ x0 → Rn d bc bs mJ3_checkIndex_8e157 9 [some (vI x0), some (vI x1), some (vO)] [] h n Q) : Rn d (bc) (bs) mJ3_checkIndex_8e157 4 [some (vI x0), some (vI x1), some (vO)] [] h n Q := by
  refine Rn_iload_n dJ3_checkIndex_8e157_4 rfl rfl ?_
  refine Rn_iload_n dJ3_checkIndex_8e157_5 rfl rfl ?_
  refine Rn_icmplt (tgt := 16) dJ3_checkIndex_8e157_6 rfl ?_ ?_
  · exact kt
  · exact kf
theorem BJ3_checkIndex_8e157_16 {d bc bs : Nat} {h : aH} {n : Nat} {Q : aQ} {x0 x1 : Int} (k : Q (some (vI x0)) h n) : Rn d (bc) (bs) mJ3_checkIndex_8e157 16 [some (vI x0), some (vI x1), some (vO)] [] h n Q := by
  refine Rn_iload_n dJ3_checkIndex_8e157_16 rfl rfl ?_
  exact Rn_ireturn rfl dJ3_checkIndex_8e157_17 k
