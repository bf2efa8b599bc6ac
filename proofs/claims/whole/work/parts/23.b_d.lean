theorem dX1_init_0 : decode cX1_init 0 = .ok (.aload_n 0, 1) := by decide +kernel
theorem dX1_init_1 : decode cX1_init 1 = .ok (.invokespecial 3, 3) := by decide +kernel
theorem dX1_init_4 : decode cX1_init 4 = .ok (.aload_n 0, 1) := by decide +kernel
theorem dX1_init_5 : decode cX1_init 5 = .ok (.bipush 96, 2) := by decide +kernel
theorem dX1_init_7 : decode cX1_init 7 = .ok (.newarray .int, 2) := by decide +kernel
theorem dX1_init_9 : decode cX1_init 9 = .ok (.putfield 11, 3) := by decide +kernel
theorem dX1_init_12 : decode cX1_init 12 = .ok (.aload_n 0, 1) := by decide +kernel
theorem dX1_init_13 : decode cX1_init 13 = .ok (.sipush 300, 3) := by decide +kernel
theorem dX1_init_16 : decode cX1_init 16 = .ok (.newarray .int, 2) := by decide +kernel
theorem dX1_init_18 : decode cX1_init 18 = .ok (.putfield 17, 3) := by decide +kernel
theorem dX1_init_21 : decode cX1_init 21 = .ok (.return_, 1) := by decide +kernel
theorem BX1_init_0 {d bc bs : Nat} {h : aH} {n : Nat} {Q : aQ} {ar0 : Nat} (k : Rn (d + 1) bc bs mX1_init 9 [some (vR (some ar0))] [vR (some n), vR (some ar0)] (up h n (cI (List.replicate 96 0))) (n + 1) Q) : Rn (d + 1) (bc + 1) (bs + 96) mX1_init 0 [some (vR (some ar0))] [] h n Q := by
  refine Rn_aload_n dX1_init_0 rfl rfl rfl ?_
  refine Rn_objInit dX1_init_1 wd_354 wd_149 wd_150 (Nat.le_of_ble_eq_true rfl) ?_
  refine Rn_aload_n dX1_init_4 rfl rfl rfl ?_
  refine Rn_bipush dX1_init_5 rfl ?_
  refine Rn_newarrI (N := 96) (bc := bc) (bs := bs) (by omega) (by omega) wd_181 dX1_init_7 (by decide) ?_
  exact k
theorem BX1_init_9 {d bc bs : Nat} {h : aH} {n : Nat} {Q : aQ} {r0 q1 : Option Nat} {aq0 : Nat} {f1 : List aV} (h2 : h aq0 = cO 1 f1) (m3 : 0 < f1.length) (k : Rn d bc bs mX1_init 12 [some (vR r0)] [] (up h aq0 (cO 1 (f1.set 0 (vR q1)))) n Q) : Rn d (bc) (bs) mX1_init 9 [some (vR r0)] [vR q1, vR (some aq0)] h n Q := by
  refine Rn_putfield (ci := 1) (k := 0) dX1_init_9 rfl in_1 tyX1_ok nmX1 (Nat.le_of_ble_eq_true rfl) wd_355 rfl (Or.inr ⟨rfl, rfl⟩) trivial m3 h2 ?_
  exact k
theorem BX1_init_12 {d bc bs : Nat} {h : aH} {n : Nat} {Q : aQ} {r0 : Option Nat} (k : Rn d bc bs mX1_init 18 [some (vR r0)] [vR (some n), vR r0] (up h n (cI (List.replicate 300 0))) (n + 1) Q) : Rn d (bc + 1) (bs + 300) mX1_init 12 [some (vR r0)] [] h n Q := by
  refine Rn_aload_n dX1_init_12 rfl rfl rfl ?_
  refine Rn_sipush dX1_init_13 rfl ?_
  refine Rn_newarrI (N := 300) (bc := bc) (bs := bs) (by omega) (by omega) wd_181 dX1_init_16 (by decide) ?_
  exact k
theorem BX1_init_18 {d bc bs : Nat} {h : aH} {n : Nat} {Q : aQ} {r0 q1 : Option Nat} {aq0 : Nat} {f1 : List aV} (h2 : h aq0 = cO 1 f1) (m3 : 1 < f1.length) (k : Rn d bc bs mX1_init 21 [some (vR r0)] [] (up h aq0 (cO 1 (f1.set 1 (vR q1)))) n Q) : Rn d (bc) (bs) mX1_init 18 [some (vR r0)] [vR q1, vR (some aq0)] h n Q := by
  refine Rn_putfield (ci := 1) (k := 1) dX1_init_18 rfl in_1 tyX1_ok nmX1 (Nat.le_of_ble_eq_true rfl) wd_356 rfl (Or.inr ⟨rfl, rfl⟩) trivial m3 h2 ?_
  exact k
theorem BX1_init_21 {d bc bs : Nat} {h : aH} {n : Nat} {Q : aQ} {r0 : Option Nat} (k : Q none h n) : Rn d (bc) (bs) mX1_init 21 [some (vR r0)] [] h n Q := by
  exact Rn_return rfl dX1_init_21 k
theorem dX1_readAll_0 : decode cX1_readAll 0 = .ok (.aload_n 0, 1) := by decide +kernel
theorem dX1_readAll_1 : decode cX1_readAll 1 = .ok (.iconst 0, 1) := by decide +kernel
theorem dX1_readAll_2 : decode cX1_readAll 2 = .ok (.putfield 20, 3) := by decide +kernel
theorem dX1_readAll_5 : decode cX1_readAll 5 = .ok (.aload_n 0, 1) := by decide +kernel
theorem dX1_readAll_6 : decode cX1_readAll 6 = .ok (.iconst 0, 1) := by decide +kernel
theorem dX1_readAll_7 : decode cX1_readAll 7 = .ok (.putfield 24, 3) := by decide +kernel
theorem dX1_readAll_10 : decode cX1_readAll 10 = .ok (.aload_n 0, 1) := by decide +kernel
theorem dX1_readAll_11 : decode cX1_readAll 11 = .ok (.aconst_null, 1) := by decide +kernel
theorem dX1_readAll_12 : decode cX1_readAll 12 = .ok (.putfield 27, 3) := by decide +kernel
theorem dX1_readAll_15 : decode cX1_readAll 15 = .ok (.aload_n 0, 1) := by decide +kernel
theorem dX1_readAll_16 : decode cX1_readAll 16 = .ok (.aconst_null, 1) := by decide +kernel
theorem dX1_readAll_17 : decode cX1_readAll 17 = .ok (.putfield 30, 3) := by decide +kernel
theorem dX1_readAll_20 : decode cX1_readAll 20 = .ok (.aload_n 0, 1) := by decide +kernel
theorem dX1_readAll_21 : decode cX1_readAll 21 = .ok (.iconst 0, 1) := by decide +kernel
theorem dX1_readAll_22 : decode cX1_readAll 22 = .ok (.putfield 33, 3) := by decide +kernel
theorem dX1_readAll_25 : decode cX1_readAll 25 = .ok (.aload_n 0, 1) := by decide +kernel
theorem dX1_readAll_26 : decode cX1_readAll 26 = .ok (.iconst (-1), 1) := by decide +kernel
theorem dX1_readAll_27 : decode cX1_readAll 27 = .ok (.putfield 36, 3) := by decide +kernel
theorem dX1_readAll_30 : decode cX1_readAll 30 = .ok (.aload_n 1, 1) := by decide +kernel
theorem dX1_readAll_31 : decode cX1_readAll 31 = .ok (.invokevirtual 39, 3) := by decide +kernel
theorem dX1_readAll_34 : decode cX1_readAll 34 = .ok (.iconst 0, 1) := by decide +kernel
theorem dX1_readAll_35 : decode cX1_readAll 35 = .ok (.istore_n 2, 1) := by decide +kernel
theorem dX1_readAll_36 : decode cX1_readAll 36 = .ok (.iload_n 2, 1) := by decide +kernel
theorem dX1_readAll_37 : decode cX1_readAll 37 = .ok (.bipush 24, 2) := by decide +kernel
theorem dX1_readAll_39 : decode cX1_readAll 39 = .ok (.if_icmp .gt 36, 3) := by decide +kernel
theorem dX1_readAll_42 : decode cX1_readAll 42 = .ok (.aload_n 0, 1) := by decide +kernel
theorem dX1_readAll_43 : decode cX1_readAll 43 = .ok (.getfield 33, 3) := by decide +kernel
theorem dX1_readAll_46 : decode cX1_readAll 46 = .ok (.ifCond .ne 29, 3) := by decide +kernel
theorem dX1_readAll_49 : decode cX1_readAll 49 = .ok (.aload_n 1, 1) := by decide +kernel
theorem dX1_readAll_50 : decode cX1_readAll 50 = .ok (.getfield 44, 3) := by decide +kernel
theorem dX1_readAll_53 : decode cX1_readAll 53 = .ok (.ifCond .eq 22, 3) := by decide +kernel
theorem dX1_readAll_56 : decode cX1_readAll 56 = .ok (.aload_n 0, 1) := by decide +kernel
theorem dX1_readAll_57 : decode cX1_readAll 57 = .ok (.aload_n 1, 1) := by decide +kernel
theorem dX1_readAll_58 : decode cX1_readAll 58 = .ok (.invokevirtual 47, 3) := by decide +kernel
theorem dX1_readAll_61 : decode cX1_readAll 61 = .ok (.ifCond .eq 8, 3) := by decide +kernel
theorem dX1_readAll_64 : decode cX1_readAll 64 = .ok (.aload_n 0, 1) := by decide +kernel
theorem dX1_readAll_65 : decode cX1_readAll 65 = .ok (.aload_n 1, 1) := by decide +kernel
theorem dX1_readAll_66 : decode cX1_readAll 66 = .ok (.invokevirtual 51, 3) := by decide +kernel
theorem dX1_readAll_69 : decode cX1_readAll 69 = .ok (.iinc 2 1, 3) := by decide +kernel
theorem dX1_readAll_72 : decode cX1_readAll 72 = .ok (.goto (-36), 3) := by decide +kernel
theorem dX1_readAll_75 : decode cX1_readAll 75 = .ok (.aload_n 0, 1) := by decide +kernel
theorem dX1_readAll_76 : decode cX1_readAll 76 = .ok (.getfield 33, 3) := by decide +kernel
theorem dX1_readAll_79 : decode cX1_readAll 79 = .ok (.ifCond .eq 5, 3) := by decide +kernel
theorem dX1_readAll_82 : decode cX1_readAll 82 = .ok (.aconst_null, 1) := by decide +kernel
theorem dX1_readAll_83 : decode cX1_readAll 83 = .ok (.areturn, 1) := by decide +kernel
theorem dX1_readAll_84 : decode cX1_readAll 84 = .ok (.iconst 0, 1) := by decide +kernel
theorem dX1_readAll_85 : decode cX1_readAll 85 = .ok (.aload_n 0, 1) := by decide +kernel
theorem dX1_readAll_86 : decode cX1_readAll 86 = .ok (.getfield 20, 3) := by decide +kernel
theorem dX1_readAll_89 : decode cX1_readAll 89 = .ok (.iconst 4, 1) := by decide +kernel
theorem dX1_readAll_90 : decode cX1_readAll 90 = .ok (.imul, 1) := by decide +kernel
theorem dX1_readAll_91 : decode cX1_readAll 91 = .ok (.invokestatic 55, 3) := by decide +kernel
theorem dX1_readAll_94 : decode cX1_readAll 94 = .ok (.istore_n 2, 1) := by decide +kernel
theorem dX1_readAll_95 : decode cX1_readAll 95 = .ok (.new 9, 3) := by decide +kernel
theorem dX1_readAll_98 : decode cX1_readAll 98 = .ok (.dup, 1) := by decide +kernel
theorem dX1_readAll_99 : decode cX1_readAll 99 = .ok (.aload_n 0, 1) := by decide +kernel
theorem dX1_readAll_100 : decode cX1_readAll 100 = .ok (.getfield 11, 3) := by decide +kernel
theorem dX1_readAll_103 : decode cX1_readAll 103 = .ok (.iload_n 2, 1) := by decide +kernel
theorem dX1_readAll_104 : decode cX1_readAll 104 = .ok (.invokestatic 61, 3) := by decide +kernel
theorem dX1_readAll_107 : decode cX1_readAll 107 = .ok (.aload_n 0, 1) := by decide +kernel
theorem dX1_readAll_108 : decode cX1_readAll 108 = .ok (.getfield 27, 3) := by decide +kernel
theorem dX1_readAll_111 : decode cX1_readAll 111 = .ok (.aload_n 0, 1) := by decide +kernel
theorem dX1_readAll_112 : decode cX1_readAll 112 = .ok (.getfield 30, 3) := by decide +kernel
theorem dX1_readAll_115 : decode cX1_readAll 115 = .ok (.invokespecial 67, 3) := by decide +kernel
theorem dX1_readAll_118 : decode cX1_readAll 118 = .ok (.areturn, 1) := by decide +kernel
theorem BX1_readAll_0 {d bc bs : Nat} {h : aH} {n : Nat} {Q : aQ} {ar0 : Nat} {r1 : Option Nat} {l2 : Option aV} {f1 : List aV} (h2 : h ar0 = cO 1 f1) (m3 : 2 < f1.length) (k : Rn d bc bs mX1_readAll 5 [some (vR (some ar0)), some (vR r1), l2] [] (up h ar0 (cO 1 (f1.set 2 (vI 0)))) n Q) : Rn d (bc) (bs) mX1_readAll 0 [some (vR (some ar0)), some (vR r1), l2] [] h n Q := by
  refine Rn_aload_n dX1_readAll_0 rfl rfl rfl ?_
  refine Rn_iconst dX1_readAll_1 rfl ?_
  refine Rn_putfield (ci := 1) (k := 2) dX1_readAll_2 rfl in_1 tyX1_ok nmX1 (Nat.le_of_ble_eq_true rfl) wd_357 rfl (Or.inl rfl) trivial m3 h2 ?_
  exact k
theorem BX1_readAll_5 {d bc bs : Nat} {h : aH} {n : Nat} {Q : aQ} {ar0 : Nat} {r1 : Option Nat} {l2 : Option aV} {f1 : List aV} (h2 : h ar0 = cO 1 f1) (m3 : 4 < f1.length) (k : Rn d bc bs mX1_readAll 10 [some (vR (some ar0)), some (vR r1), l2] [] (up h ar0 (cO 1 (f1.set 4 (vI 0)))) n Q) : Rn d (bc) (bs) mX1_readAll 5 [some (vR (some ar0)), some (vR r1), l2] [] h n Q := by
  refine Rn_aload_n dX1_readAll_5 rfl rfl rfl ?_
  refine Rn_iconst dX1_readAll_6 rfl ?_
  refine Rn_putfield (ci := 1) (k := 4) dX1_readAll_7 rfl in_1 tyX1_ok nmX1 (Nat.le_of_ble_eq_true rfl) wd_359 rfl (Or.inl rfl) trivial m3 h2 ?_
  exact k
theorem BX1_readAll_10 {d bc bs : Nat} {h : aH} {n : Nat} {Q : aQ} {ar0 : Nat} {r1 : Option Nat} {l2 : Option aV} {f1 : List aV} (h2 : h ar0 = cO 1 f1) (m3 : 6 < f1.length) (k : Rn d bc bs mX1_readAll 15 [some (vR (some ar0)), some (vR r1), l2] [] (up h ar0 (cO 1 (f1.set 6 (vR none)))) n Q) : Rn d (bc) (bs) mX1_readAll 10 [some (vR (some ar0)), some (vR r1), l2] [] h n Q := by
  refine Rn_aload_n dX1_readAll_10 rfl rfl rfl ?_
  refine Rn_null dX1_readAll_11 ?_
  refine Rn_putfield (ci := 1) (k := 6) dX1_readAll_12 rfl in_1 tyX1_ok nmX1 (Nat.le_of_ble_eq_true rfl) wd_361 rfl (Or.inl rfl) trivial m3 h2 ?_
  exact k
theorem BX1_readAll_15 {d bc bs : Nat} {h : aH} {n : Nat} {Q : aQ} {ar0 : Nat} {r1 : Option Nat} {l2 : Option aV} {f1 : List aV} (h2 : h ar0 = cO 1 f1) (m3 : 7 < f1.length) (k : Rn d bc bs mX1_readAll 20 [some (vR (some ar0)), some (vR r1), l2] [] (up h ar0 (cO 1 (f1.set 7 (vR none)))) n Q) : Rn d (bc) (bs) mX1_readAll 15 [some (vR (some ar0)), some (vR r1), l2] [] h n Q := by
  refine Rn_aload_n dX1_readAll_15 rfl rfl rfl ?_
  refine Rn_null dX1_readAll_16 ?_
  refine Rn_putfield (ci := 1) (k := 7) dX1_readAll_17 rfl in_1 tyX1_ok nmX1 (Nat.le_of_ble_eq_true rfl) wd_362 rfl (Or.inl rfl) trivial m3 h2 ?_
  exact k
theorem BX1_readAll_20 {d bc bs : Nat} {h : aH} {n : Nat} {Q : aQ} {ar0 : Nat} {r1 : Option Nat} {l2 : Option aV} {f1 : List aV} (h2 : h ar0 = cO 1 f1) (m3 : 8 < f1.length) (k : Rn d bc bs mX1_readAll 25 [some (vR (some ar0)), some (vR r1), l2] [] (up h ar0 (cO 1 (f1.set 8 (vI 0)))) n Q) : Rn d (bc) (bs) mX1_readAll 20 [some (vR (some ar0)), some (vR r1), l2] [] h n Q := by
  refine Rn_aload_n dX1_readAll_20 rfl rfl rfl ?_
  refine Rn_iconst dX1_readAll_21 rfl ?_
  refine Rn_putfield (ci := 1) (k := 8) dX1_readAll_22 rfl in_1 tyX1_ok nmX1 (Nat.le_of_ble_eq_true rfl) wd_363 rfl (Or.inl rfl) trivial m3 h2 ?_
  exact k
theorem BX1_readAll_25 {d bc bs : Nat} {h : aH} {n : Nat} {Q : aQ} {ar0 : Nat} {r1 : Option Nat} {l2 : Option aV} {f1 : List aV} (h2 : h ar0 = cO 1 f1) (m3 : 9 < f1.length) (k : Rn d bc bs mX1_readAll 30 [some (vR (some ar0)), some (vR r1), l2] [] (up h ar0 (cO 1 (f1.set 9 (vI (-1))))) n Q) : Rn d (bc) (bs) mX1_readAll 25 [some (vR (some ar0)), some (vR r1), l2] [] h n Q := by
  refine Rn_aload_n dX1_readAll_25 rfl rfl rfl ?_
  refine Rn_iconst dX1_readAll_26 rfl ?_
  refine Rn_putfield (ci := 1) (k := 9) dX1_readAll_27 rfl in_1 tyX1_ok nmX1 (Nat.le_of_ble_eq_true rfl) wd_365 rfl (Or.inl rfl) trivial m3 h2 ?_
  exact k
theorem BX1_readAll_30 {d bc bs : Nat} {h : aH} {n : Nat} {Q : aQ} {r0 : Option Nat} {ar1 : Nat} {l2 : Option aV} {f1 : List aV} (h2 : h ar1 = cO 9 f1) (k : Rn d 0 0 mX9_comeToFirst 0 [some (vR (some ar1))] [] h n (fun v h1 n1 => Rn (d + 1) bc bs mX1_readAll 34 [some (vR r0), some (vR (some ar1)), l2] (v.toList ++ []) h1 n1 Q)) : Rn (d + 1) (bc) (bs) mX1_readAll 30 [some (vR r0), some (vR (some ar1)), l2] [] h n Q := by
  refine Rn_aload_n dX1_readAll_30 rfl rfl rfl ?_
  exact Rn_callV (ci := 9) (avs := []) (st := []) (bc1 := 0) (bs1 := 0) (bc2 := bc) (bs2 := bs) fx_X9_comeToFirst dX1_readAll_31 wd_539 wd_540 wd_541 rfl h2 rfl (Nat.le_of_ble_eq_true rfl) (Nat.le_of_ble_eq_true rfl) (by omega) (by omega) (ls1 := [some (vR (some ar1))]) rfl k
theorem BX1_readAll_34 {d bc bs : Nat} {h : aH} {n : Nat} {Q : aQ} {r0 r1 : Option Nat} {l2 : Option aV} (k : Rn d bc bs mX1_readAll 36 [some (vR r0), some (vR r1), some (vI 0)] [] h n Q) : Rn d (bc) (bs) mX1_readAll 34 [some (vR r0), some (vR r1), l2] [] h n Q := by
  refine Rn_iconst dX1_readAll_34 rfl ?_
  refine Rn_istore_n dX1_readAll_35 rfl (Nat.le_of_ble_eq_true rfl) rfl rfl ?_
  exact k
theorem BX1_readAll_36 {d bc bs : Nat} {h : aH} {n : Nat} {Q : aQ} {r0 r1 : Option Nat} {x2 : Int} (kt : 24 < x2 → Rn d bc bs mX1_readAll 75 [some (vR r0), some (vR r1), some (vI x2)] [] h n Q) (kf : x2 ≤ 24 → Rn d bc bs mX1_readAll 42 [some (vR r0), some (vR r1), some (vI x2)] [] h n Q) : Rn d (bc) (bs) mX1_readAll 36 [some (vR r0), some (vR r1), some (vI x2)] [] h n Q := by
  refine Rn_iload_n dX1_readAll_36 rfl rfl ?_
  refine Rn_bipush dX1_readAll_37 rfl ?_
  refine Rn_icmpgt (tgt := 75) dX1_readAll_39 rfl ?_ ?_
  · exact kt
  · exact kf
theorem BX1_readAll_42 {d bc bs : Nat} {h : aH} {n : Nat} {Q : aQ} {ar0 : Nat} {r1 : Option Nat} {x2 v3 : Int} {f1 : List aV} (h2 : h ar0 = cO 1 f1) (g4 : f1[8]? = some (vI v3)) (kt : v3 ≠ 0 → Rn d bc bs mX1_readAll 75 [some (vR (some ar0)), some (vR r1), some (vI x2)] [] h n Q) (kf : v3 = 0 → Rn d bc bs mX1_readAll 49 [some (vR (some ar0)), some (vR r1), some (vI x2)] [] h n Q) : Rn d (bc) (bs) mX1_readAll 42 [some (vR (some ar0)), some (vR r1), some (vI x2)] [] h n Q := by
  refine Rn_aload_n dX1_readAll_42 rfl rfl rfl ?_
  refine Rn_getfield (ci := 1) (k := 8) dX1_readAll_43 rfl in_1 (Nat.le_of_ble_eq_true rfl) wd_363 rfl h2 g4 ?_
  refine Rn_ifne (tgt := 75) dX1_readAll_46 rfl ?_ ?_
  · exact kt
  · exact kf
theorem BX1_readAll_49 {d bc bs : Nat} {h : aH} {n : Nat} {Q : aQ} {r0 : Option Nat} {ar1 : Nat} {x2 v3 : Int} {f1 : List aV} (h2 : h ar1 = cO 9 f1) (g4 : f1[2]? = some (vI v3)) (kt : v3 = 0 → Rn d bc bs mX1_readAll 75 [some (vR r0), some (vR (some ar1)), some (vI x2)] [] h n Q) (kf : v3 ≠ 0 → Rn d bc bs mX1_readAll 56 [some (vR r0), some (vR (some ar1)), some (vI x2)] [] h n Q) : Rn d (bc) (bs) mX1_readAll 49 [some (vR r0), some (vR (some ar1)), some (vI x2)] [] h n Q := by
  refine Rn_aload_n dX1_readAll_49 rfl rfl rfl ?_
  refine Rn_getfield (ci := 9) (k := 2) dX1_readAll_50 rfl in_9 (Nat.le_of_ble_eq_true rfl) wd_330 rfl h2 g4 ?_
  refine Rn_ifeq (tgt := 75) dX1_readAll_53 rfl ?_ ?_
  · exact kt
  · exact kf
theorem BX1_readAll_56 {d bc bs : Nat} {h : aH} {n : Nat} {Q : aQ} {ar0 : Nat} {r1 : Option Nat} {x2 : Int} {f1 : List aV} (h2 : h ar0 = cO 1 f1) (k : Rn d 0 0 mX1_canBegin 0 [some (vR (some ar0)), some (vR r1), none] [] h n (fun v h1 n1 => Rn (d + 1) bc bs mX1_readAll 61 [some (vR (some ar0)), some (vR r1), some (vI x2)] (v.toList ++ []) h1 n1 Q)) : Rn (d + 1) (bc) (bs) mX1_readAll 56 [some (vR (some ar0)), some (vR r1), some (vI x2)] [] h n Q := by
  refine Rn_aload_n dX1_readAll_56 rfl rfl rfl ?_
  refine Rn_aload_n dX1_readAll_57 rfl rfl rfl ?_
  exact Rn_callV (ci := 1) (avs := [vR r1]) (st := []) (bc1 := 0) (bs1 := 0) (bc2 := bc) (bs2 := bs) fx_X1_canBegin dX1_readAll_58 wd_624 wd_626 wd_4 rfl h2 rfl (Nat.le_of_ble_eq_true rfl) (Nat.le_of_ble_eq_true rfl) (by omega) (by omega) (ls1 := [some (vR (some ar0)), some (vR r1), none]) rfl k
theorem BX1_readAll_61 {d bc bs : Nat} {h : aH} {n : Nat} {Q : aQ} {r0 r1 : Option Nat} {x2 s0 : Int} (kt : s0 = 0 → Rn d bc bs mX1_readAll 69 [some (vR r0), some (vR r1), some (vI x2)] [] h n Q) (kf : s0 ≠ 0 → Rn d bc bs mX1_readAll 64 [some (vR r0), some (vR r1), some (vI x2)] [] h n Q) : Rn d (bc) (bs) mX1_readAll 61 [some (vR r0), some (vR r1), some (vI x2)] [vI s0] h n Q := by
  refine Rn_ifeq (tgt := 69) dX1_readAll_61 rfl ?_ ?_
  · exact kt
  · exact kf
theorem BX1_readAll_64 {d bc bs bc1 bs1 : Nat} {h : aH} {n : Nat} {Q : aQ} {ar0 : Nat} {r1 : Option Nat} {x2 : Int} {f1 : List aV} (h2 : h ar0 = cO 1 f1) (k : Rn d bc1 bs1 mX1_readClause 0 [some (vR (some ar0)), some (vR r1), none] [] h n (fun v h1 n1 => Rn (d + 1) bc bs mX1_readAll 69 [some (vR (some ar0)), some (vR r1), some (vI x2)] (v.toList ++ []) h1 n1 Q)) : Rn (d + 1) (bc1 + bc) (bs1 + bs) mX1_readAll 64 [some (vR (some ar0)), some (vR r1), some (vI x2)] [] h n Q := by
  refine Rn_aload_n dX1_readAll_64 rfl rfl rfl ?_
  refine Rn_aload_n dX1_readAll_65 rfl rfl rfl ?_
  exact Rn_callV (ci := 1) (avs := [vR r1]) (st := []) (bc1 := bc1) (bs1 := bs1) (bc2 := bc) (bs2 := bs) fx_X1_readClause dX1_readAll_66 wd_632 wd_634 wd_6 rfl h2 rfl (Nat.le_of_ble_eq_true rfl) (Nat.le_of_ble_eq_true rfl) (by omega) (by omega) (ls1 := [some (vR (some ar0)), some (vR r1), none]) rfl k
theorem BX1_readAll_69 {d bc bs : Nat} {h : aH} {n : Nat} {Q : aQ} {r0 r1 : Option Nat} {x2 : Int} (b1 : -2147483648 ≤ x2 + 1 ∧ x2 + 1 < 2147483648) (k : Rn d bc bs mX1_readAll 36 [some (vR r0), some (vR r1), some (vI (x2 + 1))] [] h n Q) : Rn d (bc) (bs) mX1_readAll 69 [some (vR r0), some (vR r1), some (vI x2)] [] h n Q := by
  refine Rn_iinc dX1_readAll_69 rfl (Nat.le_of_ble_eq_true rfl) rfl rfl rfl ?_
  rw [w32_id b1.1 b1.2]
  refine Rn_goto (tgt := 36) dX1_readAll_72 rfl ?_
  exact k
theorem BX1_readAll_75 {d bc bs : Nat} {h : aH} {n : Nat} {Q : aQ} {ar0 : Nat} {r1 : Option Nat} {x2 v3 : Int} {f1 : List aV} (h2 : h ar0 = cO 1 f1) (g4 : f1[8]? = some (vI v3)) (kt : v3 = 0 → Rn d bc bs mX1_readAll 84 [some (vR (some ar0)), some (vR r1), some (vI x2)] [] h n Q) (kf : v3 ≠ 0 → Rn d bc bs mX1_readAll 82 [some (vR (some ar0)), some (vR r1), some (vI x2)] [] h n Q) : Rn d (bc) (bs) mX1_readAll 75 [some (vR (some ar0)), some (vR r1), some (vI x2)] [] h n Q := by
  refine Rn_aload_n dX1_readAll_75 rfl rfl rfl ?_
  refine Rn_getfield (ci := 1) (k := 8) dX1_readAll_76 rfl in_1 (Nat.le_of_ble_eq_true rfl) wd_363 rfl h2 g4 ?_
  refine Rn_ifeq (tgt := 84) dX1_readAll_79 rfl ?_ ?_
  · exact kt
  · exact kf
theorem BX1_readAll_82 {d bc bs : Nat} {h : aH} {n : Nat} {Q : aQ} {r0 r1 : Option Nat} {x2 : Int} (k : Q (some (vR none)) h n) : Rn d (bc) (bs) mX1_readAll 82 [some (vR r0), some (vR r1), some (vI x2)] [] h n Q := by
  refine Rn_null dX1_readAll_82 ?_
  exact Rn_areturn rfl rfl dX1_readAll_83 k
theorem BX1_readAll_84 {d bc bs : Nat} {h : aH} {n : Nat} {Q : aQ} {ar0 : Nat} {r1 : Option Nat} {x2 v3 : Int} {f1 : List aV} (h2 : h ar0 = cO 1 f1) (g4 : f1[2]? = some (vI v3)) (b5 : -2147483648 ≤ v3 * 4 ∧ v3 * 4 < 2147483648) (k : Rn d 0 0 mJ9_max_7cf53 0 [some (vI 0), some (vI (v3 * 4))] [] h n (fun v h1 n1 => Rn (d + 1) bc bs mX1_readAll 94 [some (vR (some ar0)), some (vR r1), some (vI x2)] (v.toList ++ []) h1 n1 Q)) : Rn (d + 1) (bc) (bs) mX1_readAll 84 [some (vR (some ar0)), some (vR r1), some (vI x2)] [] h n Q := by
  refine Rn_iconst dX1_readAll_84 rfl ?_
  refine Rn_aload_n dX1_readAll_85 rfl rfl rfl ?_
  refine Rn_getfield (ci := 1) (k := 2) dX1_readAll_86 rfl in_1 (Nat.le_of_ble_eq_true rfl) wd_357 rfl h2 g4 ?_
  refine Rn_iconst dX1_readAll_89 rfl ?_
  refine Rn_imul dX1_readAll_90 ?_
  rw [w32_id b5.1 b5.2]
  exact Rn_callS (avs := [vI 0, vI (v3 * 4)]) (st := []) (bc1 := 0) (bs1 := 0) (bc2 := bc) (bs2 := bs) fx_J9_max_7cf53 dX1_readAll_91 (Or.inl wd_716) wd_717 rfl (Nat.le_of_ble_eq_true rfl) (Nat.le_of_ble_eq_true rfl) (by omega) (by omega) (ls1 := [some (vI 0), some (vI (v3 * 4))]) rfl k
theorem BX1_readAll_94 {d bc bs : Nat} {h : aH} {n : Nat} {Q : aQ} {r0 r1 : Option Nat} {x2 s0 : Int} (k : Rn d bc bs mX1_readAll 98 [some (vR r0), some (vR r1), some (vI s0)] [vR (some n)] (up h n (cO 10 [vR none, vR none, vR none])) (n + 1) Q) : Rn d (bc + 1) (bs + 3) mX1_readAll 94 [some (vR r0), some (vR r1), some (vI x2)] [vI s0] h n Q := by
  refine Rn_istore_n dX1_readAll_94 rfl (Nat.le_of_ble_eq_true rfl) rfl rfl ?_
  refine Rn_new (ci := 10) (bc := bc) (bs := bs) (by omega) (by omega) dX1_readAll_95 rfl in_10 tyX10_ok nf_10 wd_742 wd_743 wd_142 (fs := [vR none, vR none, vR none]) rfl ?_
  exact k
theorem BX1_readAll_98 {d bc bs bc1 bs1 : Nat} {h : aH} {n : Nat} {Q : aQ} {ar0 : Nat} {r1 q0 t3 : Option Nat} {x2 : Int} {f1 : List aV} (h2 : h ar0 = cO 1 f1) (g4 : f1[0]? = some (vR t3)) (k : Rn d bc1 bs1 mJ7_copyOf_59c91 0 [some (vR t3), some (vI x2), none] [] h n (fun v h1 n1 => Rn (d + 1) bc bs mX1_readAll 107 [some (vR (some ar0)), some (vR r1), some (vI x2)] (v.toList ++ [vR q0, vR q0]) h1 n1 Q)) : Rn (d + 1) (bc1 + bc) (bs1 + bs) mX1_readAll 98 [some (vR (some ar0)), some (vR r1), some (vI x2)] [vR q0] h n Q := by
  refine Rn_dup dX1_readAll_98 rfl ?_
  refine Rn_aload_n dX1_readAll_99 rfl rfl rfl ?_
  refine Rn_getfield (ci := 1) (k := 0) dX1_readAll_100 rfl in_1 (Nat.le_of_ble_eq_true rfl) wd_355 rfl h2 g4 ?_
  refine Rn_iload_n dX1_readAll_103 rfl rfl ?_
  exact Rn_callS (avs := [vR t3, vI x2]) (st := [vR q0, vR q0]) (bc1 := bc1) (bs1 := bs1) (bc2 := bc) (bs2 := bs) fx_J7_copyOf_59c91 dX1_readAll_104 (Or.inl wd_719) wd_720 rfl (Nat.le_of_ble_eq_true rfl) (Nat.le_of_ble_eq_true rfl) (by omega) (by omega) (ls1 := [some (vR t3), some (vI x2), none]) rfl k
theorem BX1_readAll_107 {d bc bs : Nat} {h : aH} {n : Nat} {Q : aQ} {ar0 aq1 : Nat} {r1 q0 q2 t3 t5 : Option Nat} {x2 : Int} {f1 : List aV} (h2 : h ar0 = cO 1 f1) (g4 : f1[6]? = some (vR t3)) (g6 : f1[7]? = some (vR t5)) (k : Rn d 0 0 mX10_init 0 [some (vR (some aq1)), some (vR q2), some (vR t3), some (vR t5)] [] h n (fun v h1 n1 => Rn (d + 1) bc bs mX1_readAll 118 [some (vR (some ar0)), some (vR r1), some (vI x2)] (v.toList ++ [vR q0]) h1 n1 Q)) : Rn (d + 1) (bc) (bs) mX1_readAll 107 [some (vR (some ar0)), some (vR r1), some (vI x2)] [vR q2, vR (some aq1), vR q0] h n Q := by
  refine Rn_aload_n dX1_readAll_107 rfl rfl rfl ?_
  refine Rn_getfield (ci := 1) (k := 6) dX1_readAll_108 rfl in_1 (Nat.le_of_ble_eq_true rfl) wd_361 rfl h2 g4 ?_
  refine Rn_aload_n dX1_readAll_111 rfl rfl rfl ?_
  refine Rn_getfield (ci := 1) (k := 7) dX1_readAll_112 rfl in_1 (Nat.le_of_ble_eq_true rfl) wd_362 rfl h2 g6 ?_
  exact Rn_callI (avs := [vR q2, vR t3, vR t5]) (st := [vR q0]) (bc1 := 0) (bs1 := 0) (bc2 := bc) (bs2 := bs) fx_X10_init rfl rfl dX1_readAll_115 (Or.inl wd_744) wd_745 rfl (Nat.le_of_ble_eq_true rfl) (Nat.le_of_ble_eq_true rfl) (by omega) (by omega) (ls1 := [some (vR (some aq1)), some (vR q2), some (vR t3), some (vR t5)]) rfl k
theorem BX1_readAll_118 {d bc bs : Nat} {h : aH} {n : Nat} {Q : aQ} {r0 r1 q0 : Option Nat} {x2 : Int} (k : Q (some (vR q0)) h n) : Rn d (bc) (bs) mX1_readAll 118 [some (vR r0), some (vR r1), some (vI x2)] [vR q0] h n Q := by
  exact Rn_areturn rfl rfl dX1_readAll_118 k
theorem dX1_refuse_0 : decode cX1_refuse 0 = .ok (.aload_n 0, 1) := by decide +kernel
theorem dX1_refuse_1 : decode cX1_refuse 1 = .ok (.getfield 33, 3) := by decide +kernel
theorem dX1_refuse_4 : decode cX1_refuse 4 = .ok (.ifCond .eq 4, 3) := by decide +kernel
theorem dX1_refuse_7 : decode cX1_refuse 7 = .ok (.return_, 1) := by decide +kernel
theorem dX1_refuse_8 : decode cX1_refuse 8 = .ok (.aload_n 0, 1) := by decide +kernel
theorem dX1_refuse_9 : decode cX1_refuse 9 = .ok (.iload_n 2, 1) := by decide +kernel
theorem dX1_refuse_10 : decode cX1_refuse 10 = .ok (.putfield 33, 3) := by decide +kernel
theorem dX1_refuse_13 : decode cX1_refuse 13 = .ok (.aload_n 0, 1) := by decide +kernel
theorem dX1_refuse_14 : decode cX1_refuse 14 = .ok (.aload_n 1, 1) := by decide +kernel
theorem dX1_refuse_15 : decode cX1_refuse 15 = .ok (.getfield 70, 3) := by decide +kernel
theorem dX1_refuse_18 : decode cX1_refuse 18 = .ok (.putfield 36, 3) := by decide +kernel
theorem dX1_refuse_21 : decode cX1_refuse 21 = .ok (.return_, 1) := by decide +kernel
theorem BX1_refuse_0 {d bc bs : Nat} {h : aH} {n : Nat} {Q : aQ} {ar0 : Nat} {r1 : Option Nat} {x2 v3 : Int} {f1 : List aV} (h2 : h ar0 = cO 1 f1) (g4 : f1[8]? = some (vI v3)) (kt : v3 = 0 → Rn d bc bs mX1_refuse 8 [some (vR (some ar0)), some (vR r1), some (vI x2)] [] h n Q) (kf : v3 ≠ 0 → Rn d bc bs mX1_refuse 7 [some (vR (some ar0)), some (vR r1), some (vI x2)] [] h n Q) : Rn d (bc) (bs) mX1_refuse 0 [some (vR (some ar0)), some (vR r1), some (vI x2)] [] h n Q := by
  refine Rn_aload_n dX1_refuse_0 rfl rfl rfl ?_
  refine Rn_getfield (ci := 1) (k := 8) dX1_refuse_1 rfl in_1 (Nat.le_of_ble_eq_true rfl) wd_363 rfl h2 g4 ?_
  refine Rn_ifeq (tgt := 8) dX1_refuse_4 rfl ?_ ?_
  · exact kt
  · exact kf
theorem BX1_refuse_7 {d bc bs : Nat} {h : aH} {n : Nat} {Q : aQ} {r0 r1 : Option Nat} {x2 : Int} (k : Q none h n) : Rn d (bc) (bs) mX1_refuse 7 [some (vR r0), some (vR r1), some (vI x2)] [] h n Q := by
  exact Rn_return rfl dX1_refuse_7 k
theorem BX1_refuse_8 {d bc bs : Nat} {h : aH} {n : Nat} {Q : aQ} {ar0 : Nat} {r1 : Option Nat} {x2 : Int} {f1 : List aV} (h2 : h ar0 = cO 1 f1) (m3 : 8 < f1.length) (k : Rn d bc bs mX1_refuse 13 [some (vR (some ar0)), some (vR r1), some (vI x2)] [] (up h ar0 (cO 1 (f1.set 8 (vI x2)))) n Q) : Rn d (bc) (bs) mX1_refuse 8 [some (vR (some ar0)), some (vR r1), some (vI x2)] [] h n Q := by
  refine Rn_aload_n dX1_refuse_8 rfl rfl rfl ?_
  refine Rn_iload_n dX1_refuse_9 rfl rfl ?_
  refine Rn_putfield (ci := 1) (k := 8) dX1_refuse_10 rfl in_1 tyX1_ok nmX1 (Nat.le_of_ble_eq_true rfl) wd_363 rfl (Or.inl rfl) trivial m3 h2 ?_
  exact k
theorem BX1_refuse_13 {d bc bs : Nat} {h : aH} {n : Nat} {Q : aQ} {ar0 ar1 : Nat} {x2 v3 : Int} {f1 f5 : List aV} (h2 : h ar1 = cO 9 f1) (g4 : f1[3]? = some (vI v3)) (h6 : h ar0 = cO 1 f5) (m7 : 9 < f5.length) (k : Rn d bc bs mX1_refuse 21 [some (vR (some ar0)), some (vR (some ar1)), some (vI x2)] [] (up h ar0 (cO 1 (f5.set 9 (vI v3)))) n Q) : Rn d (bc) (bs) mX1_refuse 13 [some (vR (some ar0)), some (vR (some ar1)), some (vI x2)] [] h n Q := by
  refine Rn_aload_n dX1_refuse_13 rfl rfl rfl ?_
  refine Rn_aload_n dX1_refuse_14 rfl rfl rfl ?_
  refine Rn_getfield (ci := 9) (k := 3) dX1_refuse_15 rfl in_9 (Nat.le_of_ble_eq_true rfl) wd_332 rfl h2 g4 ?_
  refine Rn_putfield (ci := 1) (k := 9) dX1_refuse_18 rfl in_1 tyX1_ok nmX1 (Nat.le_of_ble_eq_true rfl) wd_365 rfl (Or.inl rfl) trivial m7 h6 ?_
  exact k
theorem BX1_refuse_21 {d bc bs : Nat} {h : aH} {n : Nat} {Q : aQ} {r0 r1 : Option Nat} {x2 : Int} (k : Q none h n) : Rn d (bc) (bs) mX1_refuse 21 [some (vR r0), some (vR r1), some (vI x2)] [] h n Q := by
  exact Rn_return rfl dX1_refuse_21 k
theorem dX1_sees_0 : decode cX1_sees 0 = .ok (.aload_n 0, 1) := by decide +kernel
theorem dX1_sees_1 : decode cX1_sees 1 = .ok (.getfield 33, 3) := by decide +kernel
theorem dX1_sees_4 : decode cX1_sees 4 = .ok (.ifCond .ne 15, 3) := by decide +kernel
theorem dX1_sees_7 : decode cX1_sees 7 = .ok (.aload_n 1, 1) := by decide +kernel
theorem dX1_sees_8 : decode cX1_sees 8 = .ok (.getfield 44, 3) := by decide +kernel
theorem dX1_sees_11 : decode cX1_sees 11 = .ok (.iload_n 2, 1) := by decide +kernel
theorem dX1_sees_12 : decode cX1_sees 12 = .ok (.if_icmp .ne 7, 3) := by decide +kernel
theorem dX1_sees_15 : decode cX1_sees 15 = .ok (.iconst 1, 1) := by decide +kernel
theorem dX1_sees_16 : decode cX1_sees 16 = .ok (.goto 4, 3) := by decide +kernel
theorem dX1_sees_19 : decode cX1_sees 19 = .ok (.iconst 0, 1) := by decide +kernel
theorem dX1_sees_20 : decode cX1_sees 20 = .ok (.ireturn, 1) := by decide +kernel
theorem BX1_sees_0 {d bc bs : Nat} {h : aH} {n : Nat} {Q : aQ} {ar0 : Nat} {r1 : Option Nat} {x2 v3 : Int} {f1 : List aV} (h2 : h ar0 = cO 1 f1) (g4 : f1[8]? = some (vI v3)) (kt : v3 ≠ 0 → Rn d bc bs mX1_sees 19 [some (vR (some ar0)), some (vR r1), some (vI x2)] [] h n Q) (kf : v3 = 0 → Rn d bc bs mX1_sees 7 [some (vR (some ar0)), some (vR r1), some (vI x2)] [] h n Q) : Rn d (bc) (bs) mX1_sees 0 [some (vR (some ar0)), some (vR r1), some (vI x2)] [] h n Q := by
  refine Rn_aload_n dX1_sees_0 rfl rfl rfl ?_
  refine Rn_getfield (ci := 1) (k := 8) dX1_sees_1 rfl in_1 (Nat.le_of_ble_eq_true rfl) wd_363 rfl h2 g4 ?_
  refine Rn_ifne (tgt := 19) dX1_sees_4 rfl ?_ ?_
  · exact kt
  · exact kf
theorem BX1_sees_7 {d bc bs : Nat} {h : aH} {n : Nat} {Q : aQ} {r0 : Option Nat} {ar1 : Nat} {x2 v3 : Int} {f1 : List aV} (h2 : h ar1 = cO 9 f1) (g4 : f1[2]? = some (vI v3)) (kt : v3 ≠ x2 → Rn d bc bs mX1_sees 19 [some (vR r0), some (vR (some ar1)), some (vI x2)] [] h n Q) (kf : v3 = x2 → Rn d bc bs mX1_sees 15 [some (vR r0), some (vR (some ar1)), some (vI x2)] [] h n Q) : Rn d (bc) (bs) mX1_sees 7 [some (vR r0), some (vR (some ar1)), some (vI x2)] [] h n Q := by
  refine Rn_aload_n dX1_sees_7 rfl rfl rfl ?_
  refine Rn_getfield (ci := 9) (k := 2) dX1_sees_8 rfl in_9 (Nat.le_of_ble_eq_true rfl) wd_330 rfl h2 g4 ?_
  refine Rn_iload_n dX1_sees_11 rfl rfl ?_
  refine Rn_icmpne (tgt := 19) dX1_sees_12 rfl ?_ ?_
  · exact kt
  · exact kf
theorem BX1_sees_15 {d bc bs : Nat} {h : aH} {n : Nat} {Q : aQ} {r0 r1 : Option Nat} {x2 : Int} (k : Q (some (vI 1)) h n) : Rn d (bc) (bs) mX1_sees 15 [some (vR r0), some (vR r1), some (vI x2)] [] h n Q := by
  refine Rn_iconst dX1_sees_15 rfl ?_
  refine Rn_goto (tgt := 20) dX1_sees_16 rfl ?_
  exact Rn_zreturn rfl dX1_sees_20 (by decide) k
theorem BX1_sees_19 {d bc bs : Nat} {h : aH} {n : Nat} {Q : aQ} {r0 r1 : Option Nat} {x2 : Int} (k : Q (some (vI 0)) h n) : Rn d (bc) (bs) mX1_sees 19 [some (vR r0), some (vR r1), some (vI x2)] [] h n Q := by
  refine Rn_iconst dX1_sees_19 rfl ?_
  exact Rn_zreturn rfl dX1_sees_20 (by decide) k
theorem dX1_want_0 : decode cX1_want 0 = .ok (.aload_n 0, 1) := by decide +kernel
theorem dX1_want_1 : decode cX1_want 1 = .ok (.aload_n 1, 1) := by decide +kernel
theorem dX1_want_2 : decode cX1_want 2 = .ok (.iload_n 2, 1) := by decide +kernel
theorem dX1_want_3 : decode cX1_want 3 = .ok (.invokevirtual 73, 3) := by decide +kernel
theorem dX1_want_6 : decode cX1_want 6 = .ok (.ifCond .eq 10, 3) := by decide +kernel
theorem dX1_want_9 : decode cX1_want 9 = .ok (.aload_n 1, 1) := by decide +kernel
theorem dX1_want_10 : decode cX1_want 10 = .ok (.invokevirtual 77, 3) := by decide +kernel
theorem dX1_want_13 : decode cX1_want 13 = .ok (.goto 9, 3) := by decide +kernel
theorem dX1_want_16 : decode cX1_want 16 = .ok (.aload_n 0, 1) := by decide +kernel
theorem dX1_want_17 : decode cX1_want 17 = .ok (.aload_n 1, 1) := by decide +kernel
theorem dX1_want_18 : decode cX1_want 18 = .ok (.iconst 1, 1) := by decide +kernel
theorem dX1_want_19 : decode cX1_want 19 = .ok (.invokevirtual 80, 3) := by decide +kernel
theorem dX1_want_22 : decode cX1_want 22 = .ok (.return_, 1) := by decide +kernel
theorem BX1_want_0 {d bc bs : Nat} {h : aH} {n : Nat} {Q : aQ} {ar0 : Nat} {r1 : Option Nat} {x2 : Int} {f1 : List aV} (h2 : h ar0 = cO 1 f1) (k : Rn d 0 0 mX1_sees 0 [some (vR (some ar0)), some (vR r1), some (vI x2)] [] h n (fun v h1 n1 => Rn (d + 1) bc bs mX1_want 6 [some (vR (some ar0)), some (vR r1), some (vI x2)] (v.toList ++ []) h1 n1 Q)) : Rn (d + 1) (bc) (bs) mX1_want 0 [some (vR (some ar0)), some (vR r1), some (vI x2)] [] h n Q := by
  refine Rn_aload_n dX1_want_0 rfl rfl rfl ?_
  refine Rn_aload_n dX1_want_1 rfl rfl rfl ?_
  refine Rn_iload_n dX1_want_2 rfl rfl ?_
  exact Rn_callV (ci := 1) (avs := [vR r1, vI x2]) (st := []) (bc1 := 0) (bs1 := 0) (bc2 := bc) (bs2 := bs) fx_X1_sees dX1_want_3 wd_680 wd_682 wd_16 rfl h2 rfl (Nat.le_of_ble_eq_true rfl) (Nat.le_of_ble_eq_true rfl) (by omega) (by omega) (ls1 := [some (vR (some ar0)), some (vR r1), some (vI x2)]) rfl k
theorem BX1_want_6 {d bc bs : Nat} {h : aH} {n : Nat} {Q : aQ} {r0 r1 : Option Nat} {x2 s0 : Int} (kt : s0 = 0 → Rn d bc bs mX1_want 16 [some (vR r0), some (vR r1), some (vI x2)] [] h n Q) (kf : s0 ≠ 0 → Rn d bc bs mX1_want 9 [some (vR r0), some (vR r1), some (vI x2)] [] h n Q) : Rn d (bc) (bs) mX1_want 6 [some (vR r0), some (vR r1), some (vI x2)] [vI s0] h n Q := by
  refine Rn_ifeq (tgt := 16) dX1_want_6 rfl ?_ ?_
  · exact kt
  · exact kf
theorem BX1_want_9 {d bc bs : Nat} {h : aH} {n : Nat} {Q : aQ} {r0 : Option Nat} {ar1 : Nat} {x2 : Int} {f1 : List aV} (h2 : h ar1 = cO 9 f1) (k : Rn d 0 0 mX9_comeToNext 0 [some (vR (some ar1)), none] [] h n (fun v h1 n1 => Rn (d + 1) bc bs mX1_want 13 [some (vR r0), some (vR (some ar1)), some (vI x2)] (v.toList ++ []) h1 n1 Q)) : Rn (d + 1) (bc) (bs) mX1_want 9 [some (vR r0), some (vR (some ar1)), some (vI x2)] [] h n Q := by
  refine Rn_aload_n dX1_want_9 rfl rfl rfl ?_
  exact Rn_callV (ci := 9) (avs := []) (st := []) (bc1 := 0) (bs1 := 0) (bc2 := bc) (bs2 := bs) fx_X9_comeToNext dX1_want_10 wd_641 wd_544 wd_545 rfl h2 rfl (Nat.le_of_ble_eq_true rfl) (Nat.le_of_ble_eq_true rfl) (by omega) (by omega) (ls1 := [some (vR (some ar1)), none]) rfl k
theorem BX1_want_13 {d bc bs : Nat} {h : aH} {n : Nat} {Q : aQ} {r0 r1 : Option Nat} {x2 : Int} (k : Q none h n) : Rn d (bc) (bs) mX1_want 13 [some (vR r0), some (vR r1), some (vI x2)] [] h n Q := by
  refine Rn_goto (tgt := 22) dX1_want_13 rfl ?_
  exact Rn_return rfl dX1_want_22 k
theorem BX1_want_16 {d bc bs : Nat} {h : aH} {n : Nat} {Q : aQ} {ar0 : Nat} {r1 : Option Nat} {x2 : Int} {f1 : List aV} (h2 : h ar0 = cO 1 f1) (k : Rn d 0 0 mX1_refuse 0 [some (vR (some ar0)), some (vR r1), some (vI 1)] [] h n (fun v h1 n1 => Rn (d + 1) bc bs mX1_want 22 [some (vR (some ar0)), some (vR r1), some (vI x2)] (v.toList ++ []) h1 n1 Q)) : Rn (d + 1) (bc) (bs) mX1_want 16 [some (vR (some ar0)), some (vR r1), some (vI x2)] [] h n Q := by
  refine Rn_aload_n dX1_want_16 rfl rfl rfl ?_
  refine Rn_aload_n dX1_want_17 rfl rfl rfl ?_
  refine Rn_iconst dX1_want_18 rfl ?_
  exact Rn_callV (ci := 1) (avs := [vR r1, vI 1]) (st := []) (bc1 := 0) (bs1 := 0) (bc2 := bc) (bs2 := bs) fx_X1_refuse dX1_want_19 wd_628 wd_630 wd_5 rfl h2 rfl (Nat.le_of_ble_eq_true rfl) (Nat.le_of_ble_eq_true rfl) (by omega) (by omega) (ls1 := [some (vR (some ar0)), some (vR r1), some (vI 1)]) rfl k
theorem BX1_want_22 {d bc bs : Nat} {h : aH} {n : Nat} {Q : aQ} {r0 r1 : Option Nat} {x2 : Int} (k : Q none h n) : Rn d (bc) (bs) mX1_want 22 [some (vR r0), some (vR r1), some (vI x2)] [] h n Q := by
  exact Rn_return rfl dX1_want_22 k
theorem dX1_canBegin_0 : decode cX1_canBegin 0 = .ok (.aload_n 1, 1) := by decide +kernel
theorem dX1_canBegin_1 : decode cX1_canBegin 1 = .ok (.getfield 44, 3) := by decide +kernel
theorem dX1_canBegin_4 : decode cX1_canBegin 4 = .ok (.istore_n 2, 1) := by decide +kernel
theorem dX1_canBegin_5 : decode cX1_canBegin 5 = .ok (.iload_n 2, 1) := by decide +kernel
theorem dX1_canBegin_6 : decode cX1_canBegin 6 = .ok (.bipush 16, 2) := by decide +kernel
theorem dX1_canBegin_8 : decode cX1_canBegin 8 = .ok (.if_icmp .lt 9, 3) := by decide +kernel
theorem dX1_canBegin_11 : decode cX1_canBegin 11 = .ok (.iload_n 2, 1) := by decide +kernel
theorem dX1_canBegin_12 : decode cX1_canBegin 12 = .ok (.bipush 23, 2) := by decide +kernel
theorem dX1_canBegin_14 : decode cX1_canBegin 14 = .ok (.if_icmp .le 12, 3) := by decide +kernel
theorem dX1_canBegin_17 : decode cX1_canBegin 17 = .ok (.aload_n 0, 1) := by decide +kernel
theorem dX1_canBegin_18 : decode cX1_canBegin 18 = .ok (.aload_n 1, 1) := by decide +kernel
theorem dX1_canBegin_19 : decode cX1_canBegin 19 = .ok (.iconst 1, 1) := by decide +kernel
theorem dX1_canBegin_20 : decode cX1_canBegin 20 = .ok (.invokevirtual 80, 3) := by decide +kernel
theorem dX1_canBegin_23 : decode cX1_canBegin 23 = .ok (.goto 54, 3) := by decide +kernel
theorem dX1_canBegin_26 : decode cX1_canBegin 26 = .ok (.iload_n 2, 1) := by decide +kernel
theorem dX1_canBegin_27 : decode cX1_canBegin 27 = .ok (.bipush 16, 2) := by decide +kernel
theorem dX1_canBegin_29 : decode cX1_canBegin 29 = .ok (.if_icmp .ne 10, 3) := by decide +kernel
theorem dX1_canBegin_32 : decode cX1_canBegin 32 = .ok (.aload_n 0, 1) := by decide +kernel
theorem dX1_canBegin_33 : decode cX1_canBegin 33 = .ok (.getfield 27, 3) := by decide +kernel
theorem dX1_canBegin_36 : decode cX1_canBegin 36 = .ok (.ifnonnull 16, 3) := by decide +kernel
theorem dX1_canBegin_39 : decode cX1_canBegin 39 = .ok (.iload_n 2, 1) := by decide +kernel
theorem dX1_canBegin_40 : decode cX1_canBegin 40 = .ok (.bipush 17, 2) := by decide +kernel
theorem dX1_canBegin_42 : decode cX1_canBegin 42 = .ok (.if_icmp .ne 19, 3) := by decide +kernel
theorem dX1_canBegin_45 : decode cX1_canBegin 45 = .ok (.aload_n 0, 1) := by decide +kernel
theorem dX1_canBegin_46 : decode cX1_canBegin 46 = .ok (.getfield 30, 3) := by decide +kernel
theorem dX1_canBegin_49 : decode cX1_canBegin 49 = .ok (.ifnull 12, 3) := by decide +kernel
theorem dX1_canBegin_52 : decode cX1_canBegin 52 = .ok (.aload_n 0, 1) := by decide +kernel
theorem dX1_canBegin_53 : decode cX1_canBegin 53 = .ok (.aload_n 1, 1) := by decide +kernel
theorem dX1_canBegin_54 : decode cX1_canBegin 54 = .ok (.iconst 4, 1) := by decide +kernel
theorem dX1_canBegin_55 : decode cX1_canBegin 55 = .ok (.invokevirtual 80, 3) := by decide +kernel
theorem dX1_canBegin_58 : decode cX1_canBegin 58 = .ok (.goto 19, 3) := by decide +kernel
theorem dX1_canBegin_61 : decode cX1_canBegin 61 = .ok (.aload_n 0, 1) := by decide +kernel
theorem dX1_canBegin_62 : decode cX1_canBegin 62 = .ok (.getfield 20, 3) := by decide +kernel
theorem dX1_canBegin_65 : decode cX1_canBegin 65 = .ok (.bipush 24, 2) := by decide +kernel
theorem dX1_canBegin_67 : decode cX1_canBegin 67 = .ok (.if_icmp .lt 10, 3) := by decide +kernel
theorem dX1_canBegin_70 : decode cX1_canBegin 70 = .ok (.aload_n 0, 1) := by decide +kernel
theorem dX1_canBegin_71 : decode cX1_canBegin 71 = .ok (.aload_n 1, 1) := by decide +kernel
theorem dX1_canBegin_72 : decode cX1_canBegin 72 = .ok (.bipush 6, 2) := by decide +kernel
theorem dX1_canBegin_74 : decode cX1_canBegin 74 = .ok (.invokevirtual 80, 3) := by decide +kernel
theorem dX1_canBegin_77 : decode cX1_canBegin 77 = .ok (.aload_n 0, 1) := by decide +kernel
theorem dX1_canBegin_78 : decode cX1_canBegin 78 = .ok (.getfield 33, 3) := by decide +kernel
theorem dX1_canBegin_81 : decode cX1_canBegin 81 = .ok (.ifCond .ne 7, 3) := by decide +kernel
theorem dX1_canBegin_84 : decode cX1_canBegin 84 = .ok (.iconst 1, 1) := by decide +kernel
theorem dX1_canBegin_85 : decode cX1_canBegin 85 = .ok (.goto 4, 3) := by decide +kernel
theorem dX1_canBegin_88 : decode cX1_canBegin 88 = .ok (.iconst 0, 1) := by decide +kernel
theorem dX1_canBegin_89 : decode cX1_canBegin 89 = .ok (.ireturn, 1) := by decide +kernel
theorem BX1_canBegin_0 {d bc bs : Nat} {h : aH} {n : Nat} {Q : aQ} {r0 : Option Nat} {ar1 : Nat} {l2 : Option aV} {f1 : List aV} {v3 : Int} (h2 : h ar1 = cO 9 f1) (g4 : f1[2]? = some (vI v3)) (kt : v3 < 16 → Rn d bc bs mX1_canBegin 17 [some (vR r0), some (vR (some ar1)), some (vI v3)] [] h n Q) (kf : 16 ≤ v3 → Rn d bc bs mX1_canBegin 11 [some (vR r0), some (vR (some ar1)), some (vI v3)] [] h n Q) : Rn d (bc) (bs) mX1_canBegin 0 [some (vR r0), some (vR (some ar1)), l2] [] h n Q := by
  refine Rn_aload_n dX1_canBegin_0 rfl rfl rfl ?_
  refine Rn_getfield (ci := 9) (k := 2) dX1_canBegin_1 rfl in_9 (Nat.le_of_ble_eq_true rfl) wd_330 rfl h2 g4 ?_
  refine Rn_istore_n dX1_canBegin_4 rfl (Nat.le_of_ble_eq_true rfl) rfl rfl ?_
  refine Rn_iload_n dX1_canBegin_5 rfl rfl ?_
  refine Rn_bipush dX1_canBegin_6 rfl ?_
  refine Rn_icmplt (tgt := 17) dX1_canBegin_8 rfl ?_ ?_
  · exact kt
  · exact kf
theorem BX1_canBegin_11 {d bc bs : Nat} {h : aH} {n : Nat} {Q : aQ} {r0 r1 : Option Nat} {x2 : Int} (kt : x2 ≤ 23 → Rn d bc bs mX1_canBegin 26 [some (vR r0), some (vR r1), some (vI x2)] [] h n Q) (kf : 23 < x2 → Rn d bc bs mX1_canBegin 17 [some (vR r0), some (vR r1), some (vI x2)] [] h n Q) : Rn d (bc) (bs) mX1_canBegin 11 [some (vR r0), some (vR r1), some (vI x2)] [] h n Q := by
  refine Rn_iload_n dX1_canBegin_11 rfl rfl ?_
  refine Rn_bipush dX1_canBegin_12 rfl ?_
  refine Rn_icmple (tgt := 26) dX1_canBegin_14 rfl ?_ ?_
  · exact kt
  · exact kf
theorem BX1_canBegin_17 {d bc bs : Nat} {h : aH} {n : Nat} {Q : aQ} {ar0 : Nat} {r1 : Option Nat} {x2 : Int} {f1 : List aV} (h2 : h ar0 = cO 1 f1) (k : Rn d 0 0 mX1_refuse 0 [some (vR (some ar0)), some (vR r1), some (vI 1)] [] h n (fun v h1 n1 => Rn (d + 1) bc bs mX1_canBegin 23 [some (vR (some ar0)), some (vR r1), some (vI x2)] (v.toList ++ []) h1 n1 Q)) : Rn (d + 1) (bc) (bs) mX1_canBegin 17 [some (vR (some ar0)), some (vR r1), some (vI x2)] [] h n Q := by
  refine Rn_aload_n dX1_canBegin_17 rfl rfl rfl ?_
  refine Rn_aload_n dX1_canBegin_18 rfl rfl rfl ?_
  refine Rn_iconst dX1_canBegin_19 rfl ?_
  exact Rn_callV (ci := 1) (avs := [vR r1, vI 1]) (st := []) (bc1 := 0) (bs1 := 0) (bc2 := bc) (bs2 := bs) fx_X1_refuse dX1_canBegin_20 wd_628 wd_630 wd_5 rfl h2 rfl (Nat.le_of_ble_eq_true rfl) (Nat.le_of_ble_eq_true rfl) (by omega) (by omega) (ls1 := [some (vR (some ar0)), some (vR r1), some (vI 1)]) rfl k
theorem BX1_canBegin_23 {d bc bs : Nat} {h : aH} {n : Nat} {Q : aQ} {ar0 : Nat} {r1 : Option Nat} {x2 v3 : Int} {f1 : List aV} (h2 : h ar0 = cO 1 f1) (g4 : f1[8]? = some (vI v3)) (kt : v3 ≠ 0 → Rn d bc bs mX1_canBegin 88 [some (vR (some ar0)), some (vR r1), some (vI x2)] [] h n Q) (kf : v3 = 0 → Rn d bc bs mX1_canBegin 84 [some (vR (some ar0)), some (vR r1), some (vI x2)] [] h n Q) : Rn d (bc) (bs) mX1_canBegin 23 [some (vR (some ar0)), some (vR r1), some (vI x2)] [] h n Q := by
  refine Rn_goto (tgt := 77) dX1_canBegin_23 rfl ?_
  refine Rn_aload_n dX1_canBegin_77 rfl rfl rfl ?_
  refine Rn_getfield (ci := 1) (k := 8) dX1_canBegin_78 rfl in_1 (Nat.le_of_ble_eq_true rfl) wd_363 rfl h2 g4 ?_
  refine Rn_ifne (tgt := 88) dX1_canBegin_81 rfl ?_ ?_
  · exact kt
  · exact kf
theorem BX1_canBegin_26 {d bc bs : Nat} {h : aH} {n : Nat} {Q : aQ} {r0 r1 : Option Nat} {x2 : Int} (kt : x2 ≠ 16 → Rn d bc bs mX1_canBegin 39 [some (vR r0), some (vR r1), some (vI x2)] [] h n Q) (kf : x2 = 16 → Rn d bc bs mX1_canBegin 32 [some (vR r0), some (vR r1), some (vI x2)] [] h n Q) : Rn d (bc) (bs) mX1_canBegin 26 [some (vR r0), some (vR r1), some (vI x2)] [] h n Q := by
  refine Rn_iload_n dX1_canBegin_26 rfl rfl ?_
  refine Rn_bipush dX1_canBegin_27 rfl ?_
  refine Rn_icmpne (tgt := 39) dX1_canBegin_29 rfl ?_ ?_
  · exact kt
  · exact kf
theorem BX1_canBegin_32 {d bc bs : Nat} {h : aH} {n : Nat} {Q : aQ} {ar0 : Nat} {r1 t3 : Option Nat} {x2 : Int} {f1 : List aV} (h2 : h ar0 = cO 1 f1) (g4 : f1[6]? = some (vR t3)) (kt : ∀ a, t3 = some a → Rn d bc bs mX1_canBegin 52 [some (vR (some ar0)), some (vR r1), some (vI x2)] [] h n Q) (kf : t3 = none → Rn d bc bs mX1_canBegin 39 [some (vR (some ar0)), some (vR r1), some (vI x2)] [] h n Q) : Rn d (bc) (bs) mX1_canBegin 32 [some (vR (some ar0)), some (vR r1), some (vI x2)] [] h n Q := by
  refine Rn_aload_n dX1_canBegin_32 rfl rfl rfl ?_
  refine Rn_getfield (ci := 1) (k := 6) dX1_canBegin_33 rfl in_1 (Nat.le_of_ble_eq_true rfl) wd_361 rfl h2 g4 ?_
  refine Rn_ifnonnull (tgt := 52) dX1_canBegin_36 rfl ?_ ?_
  · exact kt
  · exact kf
theorem BX1_canBegin_39 {d bc bs : Nat} {h : aH} {n : Nat} {Q : aQ} {r0 r1 : Option Nat} {x2 : Int} (kt : x2 ≠ 17 → Rn d bc bs mX1_canBegin 61 [some (vR r0), some (vR r1), some (vI x2)] [] h n Q) (kf : x2 = 17 → Rn d bc bs mX1_canBegin 45 [some (vR r0), some (vR r1), some (vI x2)] [] h n Q) : Rn d (bc) (bs) mX1_canBegin 39 [some (vR r0), some (vR r1), some (vI x2)] [] h n Q := by
  refine Rn_iload_n dX1_canBegin_39 rfl rfl ?_
  refine Rn_bipush dX1_canBegin_40 rfl ?_
  refine Rn_icmpne (tgt := 61) dX1_canBegin_42 rfl ?_ ?_
  · exact kt
  · exact kf
theorem BX1_canBegin_45 {d bc bs : Nat} {h : aH} {n : Nat} {Q : aQ} {ar0 : Nat} {r1 t3 : Option Nat} {x2 : Int} {f1 : List aV} (h2 : h ar0 = cO 1 f1) (g4 : f1[7]? = some (vR t3)) (kt : t3 = none → Rn d bc bs mX1_canBegin 61 [some (vR (some ar0)), some (vR r1), some (vI x2)] [] h n Q) (kf : ∀ a, t3 = some a → Rn d bc bs mX1_canBegin 52 [some (vR (some ar0)), some (vR r1), some (vI x2)] [] h n Q) : Rn d (bc) (bs) mX1_canBegin 45 [some (vR (some ar0)), some (vR r1), some (vI x2)] [] h n Q := by
  refine Rn_aload_n dX1_canBegin_45 rfl rfl rfl ?_
  refine Rn_getfield (ci := 1) (k := 7) dX1_canBegin_46 rfl in_1 (Nat.le_of_ble_eq_true rfl) wd_362 rfl h2 g4 ?_
  refine Rn_ifnull (tgt := 61) dX1_canBegin_49 rfl ?_ ?_
  · exact kt
  · exact kf
theorem BX1_canBegin_52 {d bc bs : Nat} {h : aH} {n : Nat} {Q : aQ} {ar0 : Nat} {r1 : Option Nat} {x2 : Int} {f1 : List aV} (h2 : h ar0 = cO 1 f1) (k : Rn d 0 0 mX1_refuse 0 [some (vR (some ar0)), some (vR r1), some (vI 4)] [] h n (fun v h1 n1 => Rn (d + 1) bc bs mX1_canBegin 58 [some (vR (some ar0)), some (vR r1), some (vI x2)] (v.toList ++ []) h1 n1 Q)) : Rn (d + 1) (bc) (bs) mX1_canBegin 52 [some (vR (some ar0)), some (vR r1), some (vI x2)] [] h n Q := by
  refine Rn_aload_n dX1_canBegin_52 rfl rfl rfl ?_
  refine Rn_aload_n dX1_canBegin_53 rfl rfl rfl ?_
  refine Rn_iconst dX1_canBegin_54 rfl ?_
  exact Rn_callV (ci := 1) (avs := [vR r1, vI 4]) (st := []) (bc1 := 0) (bs1 := 0) (bc2 := bc) (bs2 := bs) fx_X1_refuse dX1_canBegin_55 wd_628 wd_630 wd_5 rfl h2 rfl (Nat.le_of_ble_eq_true rfl) (Nat.le_of_ble_eq_true rfl) (by omega) (by omega) (ls1 := [some (vR (some ar0)), some (vR r1), some (vI 4)]) rfl k
theorem BX1_canBegin_58 {d bc bs : Nat} {h : aH} {n : Nat} {Q : aQ} {ar0 : Nat} {r1 : Option Nat} {x2 v3 : Int} {f1 : List aV} (h2 : h ar0 = cO 1 f1) (g4 : f1[8]? = some (vI v3)) (kt : v3 ≠ 0 → Rn d bc bs mX1_canBegin 88 [some (vR (some ar0)), some (vR r1), some (vI x2)] [] h n Q) (kf : v3 = 0 → Rn d bc bs mX1_canBegin 84 [some (vR (some ar0)), some (vR r1), some (vI x2)] [] h n Q) : Rn d (bc) (bs) mX1_canBegin 58 [some (vR (some ar0)), some (vR r1), some (vI x2)] [] h n Q := by
  refine Rn_goto (tgt := 77) dX1_canBegin_58 rfl ?_
  refine Rn_aload_n dX1_canBegin_77 rfl rfl rfl ?_
  refine Rn_getfield (ci := 1) (k := 8) dX1_canBegin_78 rfl in_1 (Nat.le_of_ble_eq_true rfl) wd_363 rfl h2 g4 ?_
  refine Rn_ifne (tgt := 88) dX1_canBegin_81 rfl ?_ ?_
  · exact kt
  · exact kf
theorem BX1_canBegin_61 {d bc bs : Nat} {h : aH} {n : Nat} {Q : aQ} {ar0 : Nat} {r1 : Option Nat} {x2 v3 : Int} {f1 : List aV} (h2 : h ar0 = cO 1 f1) (g4 : f1[2]? = some (vI v3)) (kt : v3 < 24 → Rn d bc bs mX1_canBegin 77 [some (vR (some ar0)), some (vR r1), some (vI x2)] [] h n Q) (kf : 24 ≤ v3 → Rn d bc bs mX1_canBegin 70 [some (vR (some ar0)), some (vR r1), some (vI x2)] [] h n Q) : Rn d (bc) (bs) mX1_canBegin 61 [some (vR (some ar0)), some (vR r1), some (vI x2)] [] h n Q := by
  refine Rn_aload_n dX1_canBegin_61 rfl rfl rfl ?_
  refine Rn_getfield (ci := 1) (k := 2) dX1_canBegin_62 rfl in_1 (Nat.le_of_ble_eq_true rfl) wd_357 rfl h2 g4 ?_
  refine Rn_bipush dX1_canBegin_65 rfl ?_
  refine Rn_icmplt (tgt := 77) dX1_canBegin_67 rfl ?_ ?_
  · exact kt
  · exact kf
theorem BX1_canBegin_70 {d bc bs : Nat} {h : aH} {n : Nat} {Q : aQ} {ar0 : Nat} {r1 : Option Nat} {x2 : Int} {f1 : List aV} (h2 : h ar0 = cO 1 f1) (k : Rn d 0 0 mX1_refuse 0 [some (vR (some ar0)), some (vR r1), some (vI 6)] [] h n (fun v h1 n1 => Rn (d + 1) bc bs mX1_canBegin 77 [some (vR (some ar0)), some (vR r1), some (vI x2)] (v.toList ++ []) h1 n1 Q)) : Rn (d + 1) (bc) (bs) mX1_canBegin 70 [some (vR (some ar0)), some (vR r1), some (vI x2)] [] h n Q := by
  refine Rn_aload_n dX1_canBegin_70 rfl rfl rfl ?_
  refine Rn_aload_n dX1_canBegin_71 rfl rfl rfl ?_
  refine Rn_bipush dX1_canBegin_72 rfl ?_
  exact Rn_callV (ci := 1) (avs := [vR r1, vI 6]) (st := []) (bc1 := 0) (bs1 := 0) (bc2 := bc) (bs2 := bs) fx_X1_refuse dX1_canBegin_74 wd_628 wd_630 wd_5 rfl h2 rfl (Nat.le_of_ble_eq_true rfl) (Nat.le_of_ble_eq_true rfl) (by omega) (by omega) (ls1 := [some (vR (some ar0)), some (vR r1), some (vI 6)]) rfl k
theorem BX1_canBegin_77 {d bc bs : Nat} {h : aH} {n : Nat} {Q : aQ} {ar0 : Nat} {r1 : Option Nat} {x2 v3 : Int} {f1 : List aV} (h2 : h ar0 = cO 1 f1) (g4 : f1[8]? = some (vI v3)) (kt : v3 ≠ 0 → Rn d bc bs mX1_canBegin 88 [some (vR (some ar0)), some (vR r1), some (vI x2)] [] h n Q) (kf : v3 = 0 → Rn d bc bs mX1_canBegin 84 [some (vR (some ar0)), some (vR r1), some (vI x2)] [] h n Q) : Rn d (bc) (bs) mX1_canBegin 77 [some (vR (some ar0)), some (vR r1), some (vI x2)] [] h n Q := by
  refine Rn_aload_n dX1_canBegin_77 rfl rfl rfl ?_
  refine Rn_getfield (ci := 1) (k := 8) dX1_canBegin_78 rfl in_1 (Nat.le_of_ble_eq_true rfl) wd_363 rfl h2 g4 ?_
  refine Rn_ifne (tgt := 88) dX1_canBegin_81 rfl ?_ ?_
  · exact kt
  · exact kf
theorem BX1_canBegin_84 {d bc bs : Nat} {h : aH} {n : Nat} {Q : aQ} {r0 r1 : Option Nat} {x2 : Int} (k : Q (some (vI 1)) h n) : Rn d (bc) (bs) mX1_canBegin 84 [some (vR r0), some (vR r1), some (vI x2)] [] h n Q := by
  refine Rn_iconst dX1_canBegin_84 rfl ?_
  refine Rn_goto (tgt := 89) dX1_canBegin_85 rfl ?_
  exact Rn_zreturn rfl dX1_canBegin_89 (by decide) k
theorem BX1_canBegin_88 {d bc bs : Nat} {h : aH} {n : Nat} {Q : aQ} {r0 r1 : Option Nat} {x2 : Int} (k : Q (some (vI 0)) h n) : Rn d (bc) (bs) mX1_canBegin 88 [some (vR r0), some (vR r1), some (vI x2)] [] h n Q := by
  refine Rn_iconst dX1_canBegin_88 rfl ?_
  exact Rn_zreturn rfl dX1_canBegin_89 (by decide) k
theorem dX1_readClause_0 : decode cX1_readClause 0 = .ok (.aload_n 1, 1) := by decide +kernel
theorem dX1_readClause_1 : decode cX1_readClause 1 = .ok (.getfield 44, 3) := by decide +kernel
theorem dX1_readClause_4 : decode cX1_readClause 4 = .ok (.istore_n 2, 1) := by decide +kernel
theorem dX1_readClause_5 : decode cX1_readClause 5 = .ok (.aload_n 0, 1) := by decide +kernel
theorem dX1_readClause_6 : decode cX1_readClause 6 = .ok (.iconst 0, 1) := by decide +kernel
theorem dX1_readClause_7 : decode cX1_readClause 7 = .ok (.iload_n 2, 1) := by decide +kernel
theorem dX1_readClause_8 : decode cX1_readClause 8 = .ok (.invokevirtual 84, 3) := by decide +kernel
theorem dX1_readClause_11 : decode cX1_readClause 11 = .ok (.aload_n 1, 1) := by decide +kernel
theorem dX1_readClause_12 : decode cX1_readClause 12 = .ok (.invokevirtual 77, 3) := by decide +kernel
theorem dX1_readClause_15 : decode cX1_readClause 15 = .ok (.iload_n 2, 1) := by decide +kernel
theorem dX1_readClause_16 : decode cX1_readClause 16 = .ok (.bipush 16, 2) := by decide +kernel
theorem dX1_readClause_18 : decode cX1_readClause 18 = .ok (.if_icmp .eq 9, 3) := by decide +kernel
theorem dX1_readClause_21 : decode cX1_readClause 21 = .ok (.iload_n 2, 1) := by decide +kernel
theorem dX1_readClause_22 : decode cX1_readClause 22 = .ok (.bipush 17, 2) := by decide +kernel
theorem dX1_readClause_24 : decode cX1_readClause 24 = .ok (.if_icmp .ne 35, 3) := by decide +kernel
theorem dX1_readClause_27 : decode cX1_readClause 27 = .ok (.aload_n 0, 1) := by decide +kernel
theorem dX1_readClause_28 : decode cX1_readClause 28 = .ok (.iconst 0, 1) := by decide +kernel
theorem dX1_readClause_29 : decode cX1_readClause 29 = .ok (.putfield 88, 3) := by decide +kernel
theorem dX1_readClause_32 : decode cX1_readClause 32 = .ok (.aload_n 0, 1) := by decide +kernel
theorem dX1_readClause_33 : decode cX1_readClause 33 = .ok (.iload_n 2, 1) := by decide +kernel
theorem dX1_readClause_34 : decode cX1_readClause 34 = .ok (.bipush 17, 2) := by decide +kernel
theorem dX1_readClause_36 : decode cX1_readClause 36 = .ok (.if_icmp .ne 7, 3) := by decide +kernel
theorem dX1_readClause_39 : decode cX1_readClause 39 = .ok (.iconst 1, 1) := by decide +kernel
theorem dX1_readClause_40 : decode cX1_readClause 40 = .ok (.goto 4, 3) := by decide +kernel
theorem dX1_readClause_43 : decode cX1_readClause 43 = .ok (.iconst 0, 1) := by decide +kernel
theorem dX1_readClause_44 : decode cX1_readClause 44 = .ok (.putfield 91, 3) := by decide +kernel
theorem dX1_readClause_47 : decode cX1_readClause 47 = .ok (.aload_n 0, 1) := by decide +kernel
theorem dX1_readClause_48 : decode cX1_readClause 48 = .ok (.aload_n 1, 1) := by decide +kernel
theorem dX1_readClause_49 : decode cX1_readClause 49 = .ok (.invokevirtual 95, 3) := by decide +kernel
theorem dX1_readClause_52 : decode cX1_readClause 52 = .ok (.aload_n 0, 1) := by decide +kernel
theorem dX1_readClause_53 : decode cX1_readClause 53 = .ok (.invokevirtual 98, 3) := by decide +kernel
theorem dX1_readClause_56 : decode cX1_readClause 56 = .ok (.goto 9, 3) := by decide +kernel
theorem dX1_readClause_59 : decode cX1_readClause 59 = .ok (.aload_n 0, 1) := by decide +kernel
theorem dX1_readClause_60 : decode cX1_readClause 60 = .ok (.aload_n 1, 1) := by decide +kernel
theorem dX1_readClause_61 : decode cX1_readClause 61 = .ok (.iload_n 2, 1) := by decide +kernel
theorem dX1_readClause_62 : decode cX1_readClause 62 = .ok (.invokevirtual 101, 3) := by decide +kernel
theorem dX1_readClause_65 : decode cX1_readClause 65 = .ok (.aload_n 0, 1) := by decide +kernel
theorem dX1_readClause_66 : decode cX1_readClause 66 = .ok (.aload_n 1, 1) := by decide +kernel
theorem dX1_readClause_67 : decode cX1_readClause 67 = .ok (.bipush 15, 2) := by decide +kernel
theorem dX1_readClause_69 : decode cX1_readClause 69 = .ok (.invokevirtual 104, 3) := by decide +kernel
theorem dX1_readClause_72 : decode cX1_readClause 72 = .ok (.aload_n 0, 1) := by decide +kernel
theorem dX1_readClause_73 : decode cX1_readClause 73 = .ok (.dup, 1) := by decide +kernel
theorem dX1_readClause_74 : decode cX1_readClause 74 = .ok (.getfield 20, 3) := by decide +kernel
theorem dX1_readClause_77 : decode cX1_readClause 77 = .ok (.iconst 1, 1) := by decide +kernel
theorem dX1_readClause_78 : decode cX1_readClause 78 = .ok (.iadd, 1) := by decide +kernel
theorem dX1_readClause_79 : decode cX1_readClause 79 = .ok (.putfield 20, 3) := by decide +kernel
theorem dX1_readClause_82 : decode cX1_readClause 82 = .ok (.return_, 1) := by decide +kernel
theorem BX1_readClause_0 {d bc bs : Nat} {h : aH} {n : Nat} {Q : aQ} {ar0 ar1 : Nat} {l2 : Option aV} {f1 f5 : List aV} {v3 : Int} (h2 : h ar1 = cO 9 f1) (g4 : f1[2]? = some (vI v3)) (h6 : h ar0 = cO 1 f5) (k : Rn d 0 0 mX1_notePart 0 [some (vR (some ar0)), some (vI 0), some (vI v3)] [] h n (fun v h1 n1 => Rn (d + 1) bc bs mX1_readClause 11 [some (vR (some ar0)), some (vR (some ar1)), some (vI v3)] (v.toList ++ []) h1 n1 Q)) : Rn (d + 1) (bc) (bs) mX1_readClause 0 [some (vR (some ar0)), some (vR (some ar1)), l2] [] h n Q := by
  refine Rn_aload_n dX1_readClause_0 rfl rfl rfl ?_
  refine Rn_getfield (ci := 9) (k := 2) dX1_readClause_1 rfl in_9 (Nat.le_of_ble_eq_true rfl) wd_330 rfl h2 g4 ?_
  refine Rn_istore_n dX1_readClause_4 rfl (Nat.le_of_ble_eq_true rfl) rfl rfl ?_
  refine Rn_aload_n dX1_readClause_5 rfl rfl rfl ?_
  refine Rn_iconst dX1_readClause_6 rfl ?_
  refine Rn_iload_n dX1_readClause_7 rfl rfl ?_
  exact Rn_callV (ci := 1) (avs := [vI 0, vI v3]) (st := []) (bc1 := 0) (bs1 := 0) (bc2 := bc) (bs2 := bs) fx_X1_notePart dX1_readClause_8 wd_636 wd_638 wd_7 rfl h6 rfl (Nat.le_of_ble_eq_true rfl) (Nat.le_of_ble_eq_true rfl) (by omega) (by omega) (ls1 := [some (vR (some ar0)), some (vI 0), some (vI v3)]) rfl k
theorem BX1_readClause_11 {d bc bs : Nat} {h : aH} {n : Nat} {Q : aQ} {r0 : Option Nat} {ar1 : Nat} {x2 : Int} {f1 : List aV} (h2 : h ar1 = cO 9 f1) (k : Rn d 0 0 mX9_comeToNext 0 [some (vR (some ar1)), none] [] h n (fun v h1 n1 => Rn (d + 1) bc bs mX1_readClause 15 [some (vR r0), some (vR (some ar1)), some (vI x2)] (v.toList ++ []) h1 n1 Q)) : Rn (d + 1) (bc) (bs) mX1_readClause 11 [some (vR r0), some (vR (some ar1)), some (vI x2)] [] h n Q := by
  refine Rn_aload_n dX1_readClause_11 rfl rfl rfl ?_
  exact Rn_callV (ci := 9) (avs := []) (st := []) (bc1 := 0) (bs1 := 0) (bc2 := bc) (bs2 := bs) fx_X9_comeToNext dX1_readClause_12 wd_641 wd_544 wd_545 rfl h2 rfl (Nat.le_of_ble_eq_true rfl) (Nat.le_of_ble_eq_true rfl) (by omega) (by omega) (ls1 := [some (vR (some ar1)), none]) rfl k
theorem BX1_readClause_15 {d bc bs : Nat} {h : aH} {n : Nat} {Q : aQ} {r0 r1 : Option Nat} {x2 : Int} (kt : x2 = 16 → Rn d bc bs mX1_readClause 27 [some (vR r0), some (vR r1), some (vI x2)] [] h n Q) (kf : x2 ≠ 16 → Rn d bc bs mX1_readClause 21 [some (vR r0), some (vR r1), some (vI x2)] [] h n Q) : Rn d (bc) (bs) mX1_readClause 15 [some (vR r0), some (vR r1), some (vI x2)] [] h n Q := by
  refine Rn_iload_n dX1_readClause_15 rfl rfl ?_
  refine Rn_bipush dX1_readClause_16 rfl ?_
  refine Rn_icmpeq (tgt := 27) dX1_readClause_18 rfl ?_ ?_
  · exact kt
  · exact kf
theorem BX1_readClause_21 {d bc bs : Nat} {h : aH} {n : Nat} {Q : aQ} {r0 r1 : Option Nat} {x2 : Int} (kt : x2 ≠ 17 → Rn d bc bs mX1_readClause 59 [some (vR r0), some (vR r1), some (vI x2)] [] h n Q) (kf : x2 = 17 → Rn d bc bs mX1_readClause 27 [some (vR r0), some (vR r1), some (vI x2)] [] h n Q) : Rn d (bc) (bs) mX1_readClause 21 [some (vR r0), some (vR r1), some (vI x2)] [] h n Q := by
  refine Rn_iload_n dX1_readClause_21 rfl rfl ?_
  refine Rn_bipush dX1_readClause_22 rfl ?_
  refine Rn_icmpne (tgt := 59) dX1_readClause_24 rfl ?_ ?_
  · exact kt
  · exact kf
theorem BX1_readClause_27 {d bc bs : Nat} {h : aH} {n : Nat} {Q : aQ} {ar0 : Nat} {r1 : Option Nat} {x2 : Int} {f1 : List aV} (h2 : h ar0 = cO 1 f1) (m3 : 3 < f1.length) (k : Rn d bc bs mX1_readClause 32 [some (vR (some ar0)), some (vR r1), some (vI x2)] [] (up h ar0 (cO 1 (f1.set 3 (vI 0)))) n Q) : Rn d (bc) (bs) mX1_readClause 27 [some (vR (some ar0)), some (vR r1), some (vI x2)] [] h n Q := by
  refine Rn_aload_n dX1_readClause_27 rfl rfl rfl ?_
  refine Rn_iconst dX1_readClause_28 rfl ?_
  refine Rn_putfield (ci := 1) (k := 3) dX1_readClause_29 rfl in_1 tyX1_ok nmX1 (Nat.le_of_ble_eq_true rfl) wd_358 rfl (Or.inl rfl) trivial m3 h2 ?_
  exact k
theorem BX1_readClause_32 {d bc bs : Nat} {h : aH} {n : Nat} {Q : aQ} {r0 r1 : Option Nat} {x2 : Int} (kt : x2 ≠ 17 → Rn d bc bs mX1_readClause 43 [some (vR r0), some (vR r1), some (vI x2)] [vR r0] h n Q) (kf : x2 = 17 → Rn d bc bs mX1_readClause 39 [some (vR r0), some (vR r1), some (vI x2)] [vR r0] h n Q) : Rn d (bc) (bs) mX1_readClause 32 [some (vR r0), some (vR r1), some (vI x2)] [] h n Q := by
  refine Rn_aload_n dX1_readClause_32 rfl rfl rfl ?_
  refine Rn_iload_n dX1_readClause_33 rfl rfl ?_
  refine Rn_bipush dX1_readClause_34 rfl ?_
  refine Rn_icmpne (tgt := 43) dX1_readClause_36 rfl ?_ ?_
  · exact kt
  · exact kf
theorem BX1_readClause_39 {d bc bs : Nat} {h : aH} {n : Nat} {Q : aQ} {r0 r1 : Option Nat} {x2 : Int} {aq0 : Nat} {f1 : List aV} (h2 : h aq0 = cO 1 f1) (m3 : 5 < f1.length) (k : Rn d bc bs mX1_readClause 47 [some (vR r0), some (vR r1), some (vI x2)] [] (up h aq0 (cO 1 (f1.set 5 (vI 1)))) n Q) : Rn d (bc) (bs) mX1_readClause 39 [some (vR r0), some (vR r1), some (vI x2)] [vR (some aq0)] h n Q := by
  refine Rn_iconst dX1_readClause_39 rfl ?_
  refine Rn_goto (tgt := 44) dX1_readClause_40 rfl ?_
  refine Rn_putfield (ci := 1) (k := 5) dX1_readClause_44 rfl in_1 tyX1_ok nmX1 (Nat.le_of_ble_eq_true rfl) wd_360 rfl (Or.inl rfl) (show (1 : Int) = 0 ∨ (1 : Int) = 1 by decide) m3 h2 ?_
  exact k
theorem BX1_readClause_43 {d bc bs : Nat} {h : aH} {n : Nat} {Q : aQ} {r0 r1 : Option Nat} {x2 : Int} {aq0 : Nat} {f1 : List aV} (h2 : h aq0 = cO 1 f1) (m3 : 5 < f1.length) (k : Rn d bc bs mX1_readClause 47 [some (vR r0), some (vR r1), some (vI x2)] [] (up h aq0 (cO 1 (f1.set 5 (vI 0)))) n Q) : Rn d (bc) (bs) mX1_readClause 43 [some (vR r0), some (vR r1), some (vI x2)] [vR (some aq0)] h n Q := by
  refine Rn_iconst dX1_readClause_43 rfl ?_
  refine Rn_putfield (ci := 1) (k := 5) dX1_readClause_44 rfl in_1 tyX1_ok nmX1 (Nat.le_of_ble_eq_true rfl) wd_360 rfl (Or.inl rfl) (show (0 : Int) = 0 ∨ (0 : Int) = 1 by decide) m3 h2 ?_
  exact k
theorem BX1_readClause_47 {d bc bs : Nat} {h : aH} {n : Nat} {Q : aQ} {ar0 : Nat} {r1 : Option Nat} {x2 : Int} {f1 : List aV} (h2 : h ar0 = cO 1 f1) (k : Rn d 0 0 mX1_readSum 0 [some (vR (some ar0)), some (vR r1), none, none] [] h n (fun v h1 n1 => Rn (d + 1) bc bs mX1_readClause 52 [some (vR (some ar0)), some (vR r1), some (vI x2)] (v.toList ++ []) h1 n1 Q)) : Rn (d + 1) (bc) (bs) mX1_readClause 47 [some (vR (some ar0)), some (vR r1), some (vI x2)] [] h n Q := by
  refine Rn_aload_n dX1_readClause_47 rfl rfl rfl ?_
  refine Rn_aload_n dX1_readClause_48 rfl rfl rfl ?_
  exact Rn_callV (ci := 1) (avs := [vR r1]) (st := []) (bc1 := 0) (bs1 := 0) (bc2 := bc) (bs2 := bs) fx_X1_readSum dX1_readClause_49 wd_642 wd_644 wd_8 rfl h2 rfl (Nat.le_of_ble_eq_true rfl) (Nat.le_of_ble_eq_true rfl) (by omega) (by omega) (ls1 := [some (vR (some ar0)), some (vR r1), none, none]) rfl k
theorem BX1_readClause_52 {d bc bs bc1 bs1 : Nat} {h : aH} {n : Nat} {Q : aQ} {ar0 : Nat} {r1 : Option Nat} {x2 : Int} {f1 : List aV} (h2 : h ar0 = cO 1 f1) (k : Rn d bc1 bs1 mX1_endLaw 0 [some (vR (some ar0)), none] [] h n (fun v h1 n1 => Rn (d + 1) bc bs mX1_readClause 56 [some (vR (some ar0)), some (vR r1), some (vI x2)] (v.toList ++ []) h1 n1 Q)) : Rn (d + 1) (bc1 + bc) (bs1 + bs) mX1_readClause 52 [some (vR (some ar0)), some (vR r1), some (vI x2)] [] h n Q := by
  refine Rn_aload_n dX1_readClause_52 rfl rfl rfl ?_
  exact Rn_callV (ci := 1) (avs := []) (st := []) (bc1 := bc1) (bs1 := bs1) (bc2 := bc) (bs2 := bs) fx_X1_endLaw dX1_readClause_53 wd_712 wd_714 wd_24 rfl h2 rfl (Nat.le_of_ble_eq_true rfl) (Nat.le_of_ble_eq_true rfl) (by omega) (by omega) (ls1 := [some (vR (some ar0)), none]) rfl k
theorem BX1_readClause_56 {d bc bs : Nat} {h : aH} {n : Nat} {Q : aQ} {ar0 : Nat} {r1 : Option Nat} {x2 : Int} {f1 : List aV} (h2 : h ar0 = cO 1 f1) (k : Rn d 0 0 mX1_want 0 [some (vR (some ar0)), some (vR r1), some (vI 15)] [] h n (fun v h1 n1 => Rn (d + 1) bc bs mX1_readClause 72 [some (vR (some ar0)), some (vR r1), some (vI x2)] (v.toList ++ []) h1 n1 Q)) : Rn (d + 1) (bc) (bs) mX1_readClause 56 [some (vR (some ar0)), some (vR r1), some (vI x2)] [] h n Q := by
  refine Rn_goto (tgt := 65) dX1_readClause_56 rfl ?_
  refine Rn_aload_n dX1_readClause_65 rfl rfl rfl ?_
  refine Rn_aload_n dX1_readClause_66 rfl rfl rfl ?_
  refine Rn_bipush dX1_readClause_67 rfl ?_
  exact Rn_callV (ci := 1) (avs := [vR r1, vI 15]) (st := []) (bc1 := 0) (bs1 := 0) (bc2 := bc) (bs2 := bs) fx_X1_want dX1_readClause_69 wd_676 wd_678 wd_15 rfl h2 rfl (Nat.le_of_ble_eq_true rfl) (Nat.le_of_ble_eq_true rfl) (by omega) (by omega) (ls1 := [some (vR (some ar0)), some (vR r1), some (vI 15)]) rfl k
theorem BX1_readClause_59 {d bc bs : Nat} {h : aH} {n : Nat} {Q : aQ} {ar0 : Nat} {r1 : Option Nat} {x2 : Int} {f1 : List aV} (h2 : h ar0 = cO 1 f1) (k : Rn d 0 0 mX1_readNumbers 0 [some (vR (some ar0)), some (vR r1), some (vI x2)] [] h n (fun v h1 n1 => Rn (d + 1) bc bs mX1_readClause 65 [some (vR (some ar0)), some (vR r1), some (vI x2)] (v.toList ++ []) h1 n1 Q)) : Rn (d + 1) (bc) (bs) mX1_readClause 59 [some (vR (some ar0)), some (vR r1), some (vI x2)] [] h n Q := by
  refine Rn_aload_n dX1_readClause_59 rfl rfl rfl ?_
  refine Rn_aload_n dX1_readClause_60 rfl rfl rfl ?_
  refine Rn_iload_n dX1_readClause_61 rfl rfl ?_
  exact Rn_callV (ci := 1) (avs := [vR r1, vI x2]) (st := []) (bc1 := 0) (bs1 := 0) (bc2 := bc) (bs2 := bs) fx_X1_readNumbers dX1_readClause_62 wd_733 wd_735 wd_25 rfl h2 rfl (Nat.le_of_ble_eq_true rfl) (Nat.le_of_ble_eq_true rfl) (by omega) (by omega) (ls1 := [some (vR (some ar0)), some (vR r1), some (vI x2)]) rfl k
theorem BX1_readClause_65 {d bc bs : Nat} {h : aH} {n : Nat} {Q : aQ} {ar0 : Nat} {r1 : Option Nat} {x2 : Int} {f1 : List aV} (h2 : h ar0 = cO 1 f1) (k : Rn d 0 0 mX1_want 0 [some (vR (some ar0)), some (vR r1), some (vI 15)] [] h n (fun v h1 n1 => Rn (d + 1) bc bs mX1_readClause 72 [some (vR (some ar0)), some (vR r1), some (vI x2)] (v.toList ++ []) h1 n1 Q)) : Rn (d + 1) (bc) (bs) mX1_readClause 65 [some (vR (some ar0)), some (vR r1), some (vI x2)] [] h n Q := by
  refine Rn_aload_n dX1_readClause_65 rfl rfl rfl ?_
  refine Rn_aload_n dX1_readClause_66 rfl rfl rfl ?_
  refine Rn_bipush dX1_readClause_67 rfl ?_
  exact Rn_callV (ci := 1) (avs := [vR r1, vI 15]) (st := []) (bc1 := 0) (bs1 := 0) (bc2 := bc) (bs2 := bs) fx_X1_want dX1_readClause_69 wd_676 wd_678 wd_15 rfl h2 rfl (Nat.le_of_ble_eq_true rfl) (Nat.le_of_ble_eq_true rfl) (by omega) (by omega) (ls1 := [some (vR (some ar0)), some (vR r1), some (vI 15)]) rfl k
theorem BX1_readClause_72 {d bc bs : Nat} {h : aH} {n : Nat} {Q : aQ} {ar0 : Nat} {r1 : Option Nat} {x2 v3 : Int} {f1 : List aV} (h2 : h ar0 = cO 1 f1) (g4 : f1[2]? = some (vI v3)) (b5 : -2147483648 ≤ v3 + 1 ∧ v3 + 1 < 2147483648) (m6 : 2 < f1.length) (k : Rn d bc bs mX1_readClause 82 [some (vR (some ar0)), some (vR r1), some (vI x2)] [] (up h ar0 (cO 1 (f1.set 2 (vI (v3 + 1))))) n Q) : Rn d (bc) (bs) mX1_readClause 72 [some (vR (some ar0)), some (vR r1), some (vI x2)] [] h n Q := by
  refine Rn_aload_n dX1_readClause_72 rfl rfl rfl ?_
  refine Rn_dup dX1_readClause_73 rfl ?_
  refine Rn_getfield (ci := 1) (k := 2) dX1_readClause_74 rfl in_1 (Nat.le_of_ble_eq_true rfl) wd_357 rfl h2 g4 ?_
  refine Rn_iconst dX1_readClause_77 rfl ?_
  refine Rn_iadd dX1_readClause_78 ?_
  rw [w32_id b5.1 b5.2]
  refine Rn_putfield (ci := 1) (k := 2) dX1_readClause_79 rfl in_1 tyX1_ok nmX1 (Nat.le_of_ble_eq_true rfl) wd_357 rfl (Or.inl rfl) trivial m6 h2 ?_
  exact k
theorem BX1_readClause_82 {d bc bs : Nat} {h : aH} {n : Nat} {Q : aQ} {r0 r1 : Option Nat} {x2 : Int} (k : Q none h n) : Rn d (bc) (bs) mX1_readClause 82 [some (vR r0), some (vR r1), some (vI x2)] [] h n Q := by
  exact Rn_return rfl dX1_readClause_82 k
theorem dX1_endLaw_0 : decode cX1_endLaw 0 = .ok (.aload_n 0, 1) := by decide +kernel
theorem dX1_endLaw_1 : decode cX1_endLaw 1 = .ok (.getfield 17, 3) := by decide +kernel
theorem dX1_endLaw_4 : decode cX1_endLaw 4 = .ok (.iconst 0, 1) := by decide +kernel
theorem dX1_endLaw_5 : decode cX1_endLaw 5 = .ok (.aload_n 0, 1) := by decide +kernel
theorem dX1_endLaw_6 : decode cX1_endLaw 6 = .ok (.getfield 88, 3) := by decide +kernel
theorem dX1_endLaw_9 : decode cX1_endLaw 9 = .ok (.invokestatic 55, 3) := by decide +kernel
theorem dX1_endLaw_12 : decode cX1_endLaw 12 = .ok (.invokestatic 61, 3) := by decide +kernel
theorem dX1_endLaw_15 : decode cX1_endLaw 15 = .ok (.astore_n 1, 1) := by decide +kernel
theorem dX1_endLaw_16 : decode cX1_endLaw 16 = .ok (.aload_n 0, 1) := by decide +kernel
theorem dX1_endLaw_17 : decode cX1_endLaw 17 = .ok (.getfield 91, 3) := by decide +kernel
theorem dX1_endLaw_20 : decode cX1_endLaw 20 = .ok (.ifCond .eq 11, 3) := by decide +kernel
theorem dX1_endLaw_23 : decode cX1_endLaw 23 = .ok (.aload_n 0, 1) := by decide +kernel
theorem dX1_endLaw_24 : decode cX1_endLaw 24 = .ok (.aload_n 1, 1) := by decide +kernel
theorem dX1_endLaw_25 : decode cX1_endLaw 25 = .ok (.putfield 30, 3) := by decide +kernel
theorem dX1_endLaw_28 : decode cX1_endLaw 28 = .ok (.goto 8, 3) := by decide +kernel
theorem dX1_endLaw_31 : decode cX1_endLaw 31 = .ok (.aload_n 0, 1) := by decide +kernel
theorem dX1_endLaw_32 : decode cX1_endLaw 32 = .ok (.aload_n 1, 1) := by decide +kernel
theorem dX1_endLaw_33 : decode cX1_endLaw 33 = .ok (.putfield 27, 3) := by decide +kernel
theorem dX1_endLaw_36 : decode cX1_endLaw 36 = .ok (.return_, 1) := by decide +kernel
theorem BX1_endLaw_0 {d bc bs : Nat} {h : aH} {n : Nat} {Q : aQ} {ar0 : Nat} {l1 : Option aV} {f1 : List aV} {t3 : Option Nat} {v5 : Int} (h2 : h ar0 = cO 1 f1) (g4 : f1[1]? = some (vR t3)) (g6 : f1[3]? = some (vI v5)) (k : Rn d 0 0 mJ9_max_7cf53 0 [some (vI 0), some (vI v5)] [] h n (fun v h1 n1 => Rn (d + 1) bc bs mX1_endLaw 12 [some (vR (some ar0)), l1] (v.toList ++ [vR t3]) h1 n1 Q)) : Rn (d + 1) (bc) (bs) mX1_endLaw 0 [some (vR (some ar0)), l1] [] h n Q := by
  refine Rn_aload_n dX1_endLaw_0 rfl rfl rfl ?_
  refine Rn_getfield (ci := 1) (k := 1) dX1_endLaw_1 rfl in_1 (Nat.le_of_ble_eq_true rfl) wd_356 rfl h2 g4 ?_
  refine Rn_iconst dX1_endLaw_4 rfl ?_
  refine Rn_aload_n dX1_endLaw_5 rfl rfl rfl ?_
  refine Rn_getfield (ci := 1) (k := 3) dX1_endLaw_6 rfl in_1 (Nat.le_of_ble_eq_true rfl) wd_358 rfl h2 g6 ?_
  exact Rn_callS (avs := [vI 0, vI v5]) (st := [vR t3]) (bc1 := 0) (bs1 := 0) (bc2 := bc) (bs2 := bs) fx_J9_max_7cf53 dX1_endLaw_9 (Or.inl wd_716) wd_717 rfl (Nat.le_of_ble_eq_true rfl) (Nat.le_of_ble_eq_true rfl) (by omega) (by omega) (ls1 := [some (vI 0), some (vI v5)]) rfl k
theorem BX1_endLaw_12 {d bc bs bc1 bs1 : Nat} {h : aH} {n : Nat} {Q : aQ} {r0 q0 : Option Nat} {l1 : Option aV} {s1 : Int} (k : Rn d bc1 bs1 mJ7_copyOf_59c91 0 [some (vR q0), some (vI s1), none] [] h n (fun v h1 n1 => Rn (d + 1) bc bs mX1_endLaw 15 [some (vR r0), l1] (v.toList ++ []) h1 n1 Q)) : Rn (d + 1) (bc1 + bc) (bs1 + bs) mX1_endLaw 12 [some (vR r0), l1] [vI s1, vR q0] h n Q := by
  exact Rn_callS (avs := [vR q0, vI s1]) (st := []) (bc1 := bc1) (bs1 := bs1) (bc2 := bc) (bs2 := bs) fx_J7_copyOf_59c91 dX1_endLaw_12 (Or.inl wd_719) wd_720 rfl (Nat.le_of_ble_eq_true rfl) (Nat.le_of_ble_eq_true rfl) (by omega) (by omega) (ls1 := [some (vR q0), some (vI s1), none]) rfl k
theorem BX1_endLaw_15 {d bc bs : Nat} {h : aH} {n : Nat} {Q : aQ} {ar0 : Nat} {l1 : Option aV} {q0 : Option Nat} {f1 : List aV} {v3 : Int} (h2 : h ar0 = cO 1 f1) (g4 : f1[5]? = some (vI v3)) (kt : v3 = 0 → Rn d bc bs mX1_endLaw 31 [some (vR (some ar0)), some (vR q0)] [] h n Q) (kf : v3 ≠ 0 → Rn d bc bs mX1_endLaw 23 [some (vR (some ar0)), some (vR q0)] [] h n Q) : Rn d (bc) (bs) mX1_endLaw 15 [some (vR (some ar0)), l1] [vR q0] h n Q := by
  refine Rn_astore_n dX1_endLaw_15 rfl (Nat.le_of_ble_eq_true rfl) rfl rfl rfl ?_
  refine Rn_aload_n dX1_endLaw_16 rfl rfl rfl ?_
  refine Rn_getfield (ci := 1) (k := 5) dX1_endLaw_17 rfl in_1 (Nat.le_of_ble_eq_true rfl) wd_360 rfl h2 g4 ?_
  refine Rn_ifeq (tgt := 31) dX1_endLaw_20 rfl ?_ ?_
  · exact kt
  · exact kf
theorem BX1_endLaw_23 {d bc bs : Nat} {h : aH} {n : Nat} {Q : aQ} {ar0 : Nat} {r1 : Option Nat} {f1 : List aV} (h2 : h ar0 = cO 1 f1) (m3 : 7 < f1.length) (k : Rn d bc bs mX1_endLaw 28 [some (vR (some ar0)), some (vR r1)] [] (up h ar0 (cO 1 (f1.set 7 (vR r1)))) n Q) : Rn d (bc) (bs) mX1_endLaw 23 [some (vR (some ar0)), some (vR r1)] [] h n Q := by
  refine Rn_aload_n dX1_endLaw_23 rfl rfl rfl ?_
  refine Rn_aload_n dX1_endLaw_24 rfl rfl rfl ?_
  refine Rn_putfield (ci := 1) (k := 7) dX1_endLaw_25 rfl in_1 tyX1_ok nmX1 (Nat.le_of_ble_eq_true rfl) wd_362 rfl (Or.inl rfl) trivial m3 h2 ?_
  exact k
theorem BX1_endLaw_28 {d bc bs : Nat} {h : aH} {n : Nat} {Q : aQ} {r0 r1 : Option Nat} (k : Q none h n) : Rn d (bc) (bs) mX1_endLaw 28 [some (vR r0), some (vR r1)] [] h n Q := by
  refine Rn_goto (tgt := 36) dX1_endLaw_28 rfl ?_
  exact Rn_return rfl dX1_endLaw_36 k
theorem BX1_endLaw_31 {d bc bs : Nat} {h : aH} {n : Nat} {Q : aQ} {ar0 : Nat} {r1 : Option Nat} {f1 : List aV} (h2 : h ar0 = cO 1 f1) (m3 : 6 < f1.length) (k : Rn d bc bs mX1_endLaw 36 [some (vR (some ar0)), some (vR r1)] [] (up h ar0 (cO 1 (f1.set 6 (vR r1)))) n Q) : Rn d (bc) (bs) mX1_endLaw 31 [some (vR (some ar0)), some (vR r1)] [] h n Q := by
  refine Rn_aload_n dX1_endLaw_31 rfl rfl rfl ?_
  refine Rn_aload_n dX1_endLaw_32 rfl rfl rfl ?_
  refine Rn_putfield (ci := 1) (k := 6) dX1_endLaw_33 rfl in_1 tyX1_ok nmX1 (Nat.le_of_ble_eq_true rfl) wd_361 rfl (Or.inl rfl) trivial m3 h2 ?_
  exact k
theorem BX1_endLaw_36 {d bc bs : Nat} {h : aH} {n : Nat} {Q : aQ} {r0 r1 : Option Nat} (k : Q none h n) : Rn d (bc) (bs) mX1_endLaw 36 [some (vR r0), some (vR r1)] [] h n Q := by
  exact Rn_return rfl dX1_endLaw_36 k
theorem dX1_notePart_0 : decode cX1_notePart 0 = .ok (.aload_n 0, 1) := by decide +kernel
theorem dX1_notePart_1 : decode cX1_notePart 1 = .ok (.getfield 11, 3) := by decide +kernel
theorem dX1_notePart_4 : decode cX1_notePart 4 = .ok (.aload_n 0, 1) := by decide +kernel
theorem dX1_notePart_5 : decode cX1_notePart 5 = .ok (.getfield 20, 3) := by decide +kernel
theorem dX1_notePart_8 : decode cX1_notePart 8 = .ok (.iconst 4, 1) := by decide +kernel
theorem dX1_notePart_9 : decode cX1_notePart 9 = .ok (.imul, 1) := by decide +kernel
theorem dX1_notePart_10 : decode cX1_notePart 10 = .ok (.iload_n 1, 1) := by decide +kernel
theorem dX1_notePart_11 : decode cX1_notePart 11 = .ok (.iadd, 1) := by decide +kernel
theorem dX1_notePart_12 : decode cX1_notePart 12 = .ok (.iload_n 2, 1) := by decide +kernel
theorem dX1_notePart_13 : decode cX1_notePart 13 = .ok (.invokestatic 107, 3) := by decide +kernel
theorem dX1_notePart_16 : decode cX1_notePart 16 = .ok (.return_, 1) := by decide +kernel
theorem BX1_notePart_0 {d bc bs : Nat} {h : aH} {n : Nat} {Q : aQ} {ar0 : Nat} {x1 x2 v5 : Int} {f1 : List aV} {t3 : Option Nat} (h2 : h ar0 = cO 1 f1) (g4 : f1[0]? = some (vR t3)) (g6 : f1[2]? = some (vI v5)) (b7 : -2147483648 ≤ v5 * 4 ∧ v5 * 4 < 2147483648) (b8 : -2147483648 ≤ (v5 * 4) + x1 ∧ (v5 * 4) + x1 < 2147483648) (k : Rn d 0 0 mX12_setCell 0 [some (vR t3), some (vI ((v5 * 4) + x1)), some (vI x2)] [] h n (fun v h1 n1 => Rn (d + 1) bc bs mX1_notePart 16 [some (vR (some ar0)), some (vI x1), some (vI x2)] (v.toList ++ []) h1 n1 Q)) : Rn (d + 1) (bc) (bs) mX1_notePart 0 [some (vR (some ar0)), some (vI x1), some (vI x2)] [] h n Q := by
  refine Rn_aload_n dX1_notePart_0 rfl rfl rfl ?_
  refine Rn_getfield (ci := 1) (k := 0) dX1_notePart_1 rfl in_1 (Nat.le_of_ble_eq_true rfl) wd_355 rfl h2 g4 ?_
  refine Rn_aload_n dX1_notePart_4 rfl rfl rfl ?_
  refine Rn_getfield (ci := 1) (k := 2) dX1_notePart_5 rfl in_1 (Nat.le_of_ble_eq_true rfl) wd_357 rfl h2 g6 ?_
  refine Rn_iconst dX1_notePart_8 rfl ?_
  refine Rn_imul dX1_notePart_9 ?_
  rw [w32_id b7.1 b7.2]
  refine Rn_iload_n dX1_notePart_10 rfl rfl ?_
  refine Rn_iadd dX1_notePart_11 ?_
  rw [w32_id b8.1 b8.2]
  refine Rn_iload_n dX1_notePart_12 rfl rfl ?_
  exact Rn_callS (avs := [vR t3, vI ((v5 * 4) + x1), vI x2]) (st := []) (bc1 := 0) (bs1 := 0) (bc2 := bc) (bs2 := bs) fx_X12_setCell dX1_notePart_13 (Or.inr ⟨"BottledPost", List.mem_of_getElem? (i := 15) rfl⟩) wd_164 rfl (Nat.le_of_ble_eq_true rfl) (Nat.le_of_ble_eq_true rfl) (by omega) (by omega) (ls1 := [some (vR t3), some (vI ((v5 * 4) + x1)), some (vI x2)]) rfl k
theorem BX1_notePart_16 {d bc bs : Nat} {h : aH} {n : Nat} {Q : aQ} {r0 : Option Nat} {x1 x2 : Int} (k : Q none h n) : Rn d (bc) (bs) mX1_notePart 16 [some (vR r0), some (vI x1), some (vI x2)] [] h n Q := by
  exact Rn_return rfl dX1_notePart_16 k
theorem dX1_readNumbers_0 : decode cX1_readNumbers 0 = .ok (.iload_n 2, 1) := by decide +kernel
theorem dX1_readNumbers_1 : decode cX1_readNumbers 1 = .ok (.tableswitch 187 18 22 #[35, 63, 106, 148, 175], 35) := by decide +kernel
theorem dX1_readNumbers_36 : decode cX1_readNumbers 36 = .ok (.aload_n 0, 1) := by decide +kernel
theorem dX1_readNumbers_37 : decode cX1_readNumbers 37 = .ok (.aload_n 1, 1) := by decide +kernel
theorem dX1_readNumbers_38 : decode cX1_readNumbers 38 = .ok (.iconst 1, 1) := by decide +kernel
theorem dX1_readNumbers_39 : decode cX1_readNumbers 39 = .ok (.iconst 0, 1) := by decide +kernel
theorem dX1_readNumbers_40 : decode cX1_readNumbers 40 = .ok (.bipush 9, 2) := by decide +kernel
theorem dX1_readNumbers_42 : decode cX1_readNumbers 42 = .ok (.invokevirtual 111, 3) := by decide +kernel
theorem dX1_readNumbers_45 : decode cX1_readNumbers 45 = .ok (.aload_n 0, 1) := by decide +kernel
theorem dX1_readNumbers_46 : decode cX1_readNumbers 46 = .ok (.aload_n 1, 1) := by decide +kernel
theorem dX1_readNumbers_47 : decode cX1_readNumbers 47 = .ok (.bipush 26, 2) := by decide +kernel
theorem dX1_readNumbers_49 : decode cX1_readNumbers 49 = .ok (.invokevirtual 104, 3) := by decide +kernel
theorem dX1_readNumbers_52 : decode cX1_readNumbers 52 = .ok (.aload_n 0, 1) := by decide +kernel
theorem dX1_readNumbers_53 : decode cX1_readNumbers 53 = .ok (.aload_n 1, 1) := by decide +kernel
theorem dX1_readNumbers_54 : decode cX1_readNumbers 54 = .ok (.iconst 2, 1) := by decide +kernel
theorem dX1_readNumbers_55 : decode cX1_readNumbers 55 = .ok (.iconst 0, 1) := by decide +kernel
theorem dX1_readNumbers_56 : decode cX1_readNumbers 56 = .ok (.bipush 9, 2) := by decide +kernel
theorem dX1_readNumbers_58 : decode cX1_readNumbers 58 = .ok (.invokevirtual 111, 3) := by decide +kernel
theorem dX1_readNumbers_61 : decode cX1_readNumbers 61 = .ok (.goto 136, 3) := by decide +kernel
theorem dX1_readNumbers_64 : decode cX1_readNumbers 64 = .ok (.aload_n 0, 1) := by decide +kernel
theorem dX1_readNumbers_65 : decode cX1_readNumbers 65 = .ok (.aload_n 1, 1) := by decide +kernel
theorem dX1_readNumbers_66 : decode cX1_readNumbers 66 = .ok (.iconst 1, 1) := by decide +kernel
theorem dX1_readNumbers_67 : decode cX1_readNumbers 67 = .ok (.iconst 0, 1) := by decide +kernel
theorem dX1_readNumbers_68 : decode cX1_readNumbers 68 = .ok (.iconst 2, 1) := by decide +kernel
theorem dX1_readNumbers_69 : decode cX1_readNumbers 69 = .ok (.invokevirtual 111, 3) := by decide +kernel
theorem dX1_readNumbers_72 : decode cX1_readNumbers 72 = .ok (.aload_n 0, 1) := by decide +kernel
theorem dX1_readNumbers_73 : decode cX1_readNumbers 73 = .ok (.aload_n 1, 1) := by decide +kernel
theorem dX1_readNumbers_74 : decode cX1_readNumbers 74 = .ok (.bipush 28, 2) := by decide +kernel
theorem dX1_readNumbers_76 : decode cX1_readNumbers 76 = .ok (.invokevirtual 104, 3) := by decide +kernel
theorem dX1_readNumbers_79 : decode cX1_readNumbers 79 = .ok (.aload_n 0, 1) := by decide +kernel
theorem dX1_readNumbers_80 : decode cX1_readNumbers 80 = .ok (.aload_n 1, 1) := by decide +kernel
theorem dX1_readNumbers_81 : decode cX1_readNumbers 81 = .ok (.iconst 2, 1) := by decide +kernel
theorem dX1_readNumbers_82 : decode cX1_readNumbers 82 = .ok (.iconst 0, 1) := by decide +kernel
theorem dX1_readNumbers_83 : decode cX1_readNumbers 83 = .ok (.bipush 9, 2) := by decide +kernel
theorem dX1_readNumbers_85 : decode cX1_readNumbers 85 = .ok (.invokevirtual 111, 3) := by decide +kernel
theorem dX1_readNumbers_88 : decode cX1_readNumbers 88 = .ok (.aload_n 0, 1) := by decide +kernel
theorem dX1_readNumbers_89 : decode cX1_readNumbers 89 = .ok (.aload_n 1, 1) := by decide +kernel
theorem dX1_readNumbers_90 : decode cX1_readNumbers 90 = .ok (.bipush 29, 2) := by decide +kernel
theorem dX1_readNumbers_92 : decode cX1_readNumbers 92 = .ok (.invokevirtual 104, 3) := by decide +kernel
theorem dX1_readNumbers_95 : decode cX1_readNumbers 95 = .ok (.aload_n 0, 1) := by decide +kernel
theorem dX1_readNumbers_96 : decode cX1_readNumbers 96 = .ok (.aload_n 1, 1) := by decide +kernel
theorem dX1_readNumbers_97 : decode cX1_readNumbers 97 = .ok (.iconst 3, 1) := by decide +kernel
theorem dX1_readNumbers_98 : decode cX1_readNumbers 98 = .ok (.iconst 0, 1) := by decide +kernel
theorem dX1_readNumbers_99 : decode cX1_readNumbers 99 = .ok (.bipush 9, 2) := by decide +kernel
theorem dX1_readNumbers_101 : decode cX1_readNumbers 101 = .ok (.invokevirtual 111, 3) := by decide +kernel
theorem dX1_readNumbers_104 : decode cX1_readNumbers 104 = .ok (.goto 93, 3) := by decide +kernel
theorem dX1_readNumbers_107 : decode cX1_readNumbers 107 = .ok (.aload_n 0, 1) := by decide +kernel
theorem dX1_readNumbers_108 : decode cX1_readNumbers 108 = .ok (.aload_n 1, 1) := by decide +kernel
theorem dX1_readNumbers_109 : decode cX1_readNumbers 109 = .ok (.iconst 1, 1) := by decide +kernel
theorem dX1_readNumbers_110 : decode cX1_readNumbers 110 = .ok (.iconst 0, 1) := by decide +kernel
theorem dX1_readNumbers_111 : decode cX1_readNumbers 111 = .ok (.iconst 5, 1) := by decide +kernel
theorem dX1_readNumbers_112 : decode cX1_readNumbers 112 = .ok (.invokevirtual 111, 3) := by decide +kernel
theorem dX1_readNumbers_115 : decode cX1_readNumbers 115 = .ok (.aload_n 0, 1) := by decide +kernel
theorem dX1_readNumbers_116 : decode cX1_readNumbers 116 = .ok (.aload_n 1, 1) := by decide +kernel
theorem dX1_readNumbers_117 : decode cX1_readNumbers 117 = .ok (.bipush 29, 2) := by decide +kernel
theorem dX1_readNumbers_119 : decode cX1_readNumbers 119 = .ok (.invokevirtual 104, 3) := by decide +kernel
theorem dX1_readNumbers_122 : decode cX1_readNumbers 122 = .ok (.aload_n 0, 1) := by decide +kernel
theorem dX1_readNumbers_123 : decode cX1_readNumbers 123 = .ok (.aload_n 1, 1) := by decide +kernel
theorem dX1_readNumbers_124 : decode cX1_readNumbers 124 = .ok (.iconst 2, 1) := by decide +kernel
theorem dX1_readNumbers_125 : decode cX1_readNumbers 125 = .ok (.iconst 0, 1) := by decide +kernel
theorem dX1_readNumbers_126 : decode cX1_readNumbers 126 = .ok (.iconst 5, 1) := by decide +kernel
theorem dX1_readNumbers_127 : decode cX1_readNumbers 127 = .ok (.invokevirtual 111, 3) := by decide +kernel
theorem dX1_readNumbers_130 : decode cX1_readNumbers 130 = .ok (.aload_n 0, 1) := by decide +kernel
theorem dX1_readNumbers_131 : decode cX1_readNumbers 131 = .ok (.aload_n 1, 1) := by decide +kernel
theorem dX1_readNumbers_132 : decode cX1_readNumbers 132 = .ok (.bipush 25, 2) := by decide +kernel
theorem dX1_readNumbers_134 : decode cX1_readNumbers 134 = .ok (.invokevirtual 104, 3) := by decide +kernel
theorem dX1_readNumbers_137 : decode cX1_readNumbers 137 = .ok (.aload_n 0, 1) := by decide +kernel
theorem dX1_readNumbers_138 : decode cX1_readNumbers 138 = .ok (.aload_n 1, 1) := by decide +kernel
theorem dX1_readNumbers_139 : decode cX1_readNumbers 139 = .ok (.iconst 3, 1) := by decide +kernel
theorem dX1_readNumbers_140 : decode cX1_readNumbers 140 = .ok (.iconst 1, 1) := by decide +kernel
theorem dX1_readNumbers_141 : decode cX1_readNumbers 141 = .ok (.bipush 99, 2) := by decide +kernel
theorem dX1_readNumbers_143 : decode cX1_readNumbers 143 = .ok (.invokevirtual 111, 3) := by decide +kernel
theorem dX1_readNumbers_146 : decode cX1_readNumbers 146 = .ok (.goto 51, 3) := by decide +kernel
theorem dX1_readNumbers_149 : decode cX1_readNumbers 149 = .ok (.aload_n 0, 1) := by decide +kernel
theorem dX1_readNumbers_150 : decode cX1_readNumbers 150 = .ok (.aload_n 1, 1) := by decide +kernel
theorem dX1_readNumbers_151 : decode cX1_readNumbers 151 = .ok (.iconst 1, 1) := by decide +kernel
theorem dX1_readNumbers_152 : decode cX1_readNumbers 152 = .ok (.iconst 0, 1) := by decide +kernel
theorem dX1_readNumbers_153 : decode cX1_readNumbers 153 = .ok (.bipush 11, 2) := by decide +kernel
theorem dX1_readNumbers_155 : decode cX1_readNumbers 155 = .ok (.invokevirtual 111, 3) := by decide +kernel
theorem dX1_readNumbers_158 : decode cX1_readNumbers 158 = .ok (.aload_n 0, 1) := by decide +kernel
theorem dX1_readNumbers_159 : decode cX1_readNumbers 159 = .ok (.aload_n 1, 1) := by decide +kernel
theorem dX1_readNumbers_160 : decode cX1_readNumbers 160 = .ok (.bipush 31, 2) := by decide +kernel
theorem dX1_readNumbers_162 : decode cX1_readNumbers 162 = .ok (.invokevirtual 104, 3) := by decide +kernel
theorem dX1_readNumbers_165 : decode cX1_readNumbers 165 = .ok (.aload_n 0, 1) := by decide +kernel
theorem dX1_readNumbers_166 : decode cX1_readNumbers 166 = .ok (.aload_n 1, 1) := by decide +kernel
theorem dX1_readNumbers_167 : decode cX1_readNumbers 167 = .ok (.iconst 2, 1) := by decide +kernel
theorem dX1_readNumbers_168 : decode cX1_readNumbers 168 = .ok (.iconst 0, 1) := by decide +kernel
theorem dX1_readNumbers_169 : decode cX1_readNumbers 169 = .ok (.iconst 5, 1) := by decide +kernel
theorem dX1_readNumbers_170 : decode cX1_readNumbers 170 = .ok (.invokevirtual 111, 3) := by decide +kernel
theorem dX1_readNumbers_173 : decode cX1_readNumbers 173 = .ok (.goto 24, 3) := by decide +kernel
theorem dX1_readNumbers_176 : decode cX1_readNumbers 176 = .ok (.aload_n 0, 1) := by decide +kernel
theorem dX1_readNumbers_177 : decode cX1_readNumbers 177 = .ok (.aload_n 1, 1) := by decide +kernel
theorem dX1_readNumbers_178 : decode cX1_readNumbers 178 = .ok (.iconst 1, 1) := by decide +kernel
theorem dX1_readNumbers_179 : decode cX1_readNumbers 179 = .ok (.iconst 0, 1) := by decide +kernel
theorem dX1_readNumbers_180 : decode cX1_readNumbers 180 = .ok (.bipush 11, 2) := by decide +kernel
theorem dX1_readNumbers_182 : decode cX1_readNumbers 182 = .ok (.invokevirtual 111, 3) := by decide +kernel
theorem dX1_readNumbers_185 : decode cX1_readNumbers 185 = .ok (.goto 12, 3) := by decide +kernel
theorem dX1_readNumbers_188 : decode cX1_readNumbers 188 = .ok (.aload_n 0, 1) := by decide +kernel
theorem dX1_readNumbers_189 : decode cX1_readNumbers 189 = .ok (.aload_n 1, 1) := by decide +kernel
theorem dX1_readNumbers_190 : decode cX1_readNumbers 190 = .ok (.iconst 1, 1) := by decide +kernel
theorem dX1_readNumbers_191 : decode cX1_readNumbers 191 = .ok (.iconst 1, 1) := by decide +kernel
theorem dX1_readNumbers_192 : decode cX1_readNumbers 192 = .ok (.bipush 60, 2) := by decide +kernel
theorem dX1_readNumbers_194 : decode cX1_readNumbers 194 = .ok (.invokevirtual 111, 3) := by decide +kernel
theorem dX1_readNumbers_197 : decode cX1_readNumbers 197 = .ok (.return_, 1) := by decide +kernel
theorem BX1_readNumbers_0 {d bc bs : Nat} {h : aH} {n : Nat} {Q : aQ} {r0 r1 : Option Nat} {x2 : Int} (kd : (x2 < 18 ∨ 22 < x2) → Rn d bc bs mX1_readNumbers 188 [some (vR r0), some (vR r1), some (vI x2)] [] h n Q) (k18 : x2 = 18 → Rn d bc bs mX1_readNumbers 36 [some (vR r0), some (vR r1), some (vI x2)] [] h n Q) (k19 : x2 = 19 → Rn d bc bs mX1_readNumbers 64 [some (vR r0), some (vR r1), some (vI x2)] [] h n Q) (k20 : x2 = 20 → Rn d bc bs mX1_readNumbers 107 [some (vR r0), some (vR r1), some (vI x2)] [] h n Q) (k21 : x2 = 21 → Rn d bc bs mX1_readNumbers 149 [some (vR r0), some (vR r1), some (vI x2)] [] h n Q) (k22 : x2 = 22 → Rn d bc bs mX1_readNumbers 176 [some (vR r0), some (vR r1), some (vI x2)] [] h n Q) : Rn d (bc) (bs) mX1_readNumbers 0 [some (vR r0), some (vR r1), some (vI x2)] [] h n Q := by
  refine Rn_iload_n dX1_readNumbers_0 rfl rfl ?_
  by_cases hq : x2 < 18 ∨ 22 < x2
  · exact Rn_tableOut (tgt := 188) dX1_readNumbers_1 hq rfl (kd hq)
  rcases (show x2 = 18 ∨ x2 = 19 ∨ x2 = 20 ∨ x2 = 21 ∨ x2 = 22 by omega) with hz | hz | hz | hz | hz
  · exact Rn_tableIn (tgt := 36) dX1_readNumbers_1 (by omega) (by omega) (by rw [hz] <;> rfl) rfl (k18 hz)
  · exact Rn_tableIn (tgt := 64) dX1_readNumbers_1 (by omega) (by omega) (by rw [hz] <;> rfl) rfl (k19 hz)
  · exact Rn_tableIn (tgt := 107) dX1_readNumbers_1 (by omega) (by omega) (by rw [hz] <;> rfl) rfl (k20 hz)
  · exact Rn_tableIn (tgt := 149) dX1_readNumbers_1 (by omega) (by omega) (by rw [hz] <;> rfl) rfl (k21 hz)
  · exact Rn_tableIn (tgt := 176) dX1_readNumbers_1 (by omega) (by omega) (by rw [hz] <;> rfl) rfl (k22 hz)
theorem BX1_readNumbers_36 {d bc bs : Nat} {h : aH} {n : Nat} {Q : aQ} {ar0 : Nat} {r1 : Option Nat} {x2 : Int} {f1 : List aV} (h2 : h ar0 = cO 1 f1) (k : Rn d 0 0 mX1_readNumber 0 [some (vR (some ar0)), some (vR r1), some (vI 1), some (vI 0), some (vI 9)] [] h n (fun v h1 n1 => Rn (d + 1) bc bs mX1_readNumbers 45 [some (vR (some ar0)), some (vR r1), some (vI x2)] (v.toList ++ []) h1 n1 Q)) : Rn (d + 1) (bc) (bs) mX1_readNumbers 36 [some (vR (some ar0)), some (vR r1), some (vI x2)] [] h n Q := by
  refine Rn_aload_n dX1_readNumbers_36 rfl rfl rfl ?_
  refine Rn_aload_n dX1_readNumbers_37 rfl rfl rfl ?_
  refine Rn_iconst dX1_readNumbers_38 rfl ?_
  refine Rn_iconst dX1_readNumbers_39 rfl ?_
  refine Rn_bipush dX1_readNumbers_40 rfl ?_
  exact Rn_callV (ci := 1) (avs := [vR r1, vI 1, vI 0, vI 9]) (st := []) (bc1 := 0) (bs1 := 0) (bc2 := bc) (bs2 := bs) fx_X1_readNumber dX1_readNumbers_42 wd_737 wd_739 wd_26 rfl h2 rfl (Nat.le_of_ble_eq_true rfl) (Nat.le_of_ble_eq_true rfl) (by omega) (by omega) (ls1 := [some (vR (some ar0)), some (vR r1), some (vI 1), some (vI 0), some (vI 9)]) rfl k
theorem BX1_readNumbers_45 {d bc bs : Nat} {h : aH} {n : Nat} {Q : aQ} {ar0 : Nat} {r1 : Option Nat} {x2 : Int} {f1 : List aV} (h2 : h ar0 = cO 1 f1) (k : Rn d 0 0 mX1_want 0 [some (vR (some ar0)), some (vR r1), some (vI 26)] [] h n (fun v h1 n1 => Rn (d + 1) bc bs mX1_readNumbers 52 [some (vR (some ar0)), some (vR r1), some (vI x2)] (v.toList ++ []) h1 n1 Q)) : Rn (d + 1) (bc) (bs) mX1_readNumbers 45 [some (vR (some ar0)), some (vR r1), some (vI x2)] [] h n Q := by
  refine Rn_aload_n dX1_readNumbers_45 rfl rfl rfl ?_
  refine Rn_aload_n dX1_readNumbers_46 rfl rfl rfl ?_
  refine Rn_bipush dX1_readNumbers_47 rfl ?_
  exact Rn_callV (ci := 1) (avs := [vR r1, vI 26]) (st := []) (bc1 := 0) (bs1 := 0) (bc2 := bc) (bs2 := bs) fx_X1_want dX1_readNumbers_49 wd_676 wd_678 wd_15 rfl h2 rfl (Nat.le_of_ble_eq_true rfl) (Nat.le_of_ble_eq_true rfl) (by omega) (by omega) (ls1 := [some (vR (some ar0)), some (vR r1), some (vI 26)]) rfl k
theorem BX1_readNumbers_52 {d bc bs : Nat} {h : aH} {n : Nat} {Q : aQ} {ar0 : Nat} {r1 : Option Nat} {x2 : Int} {f1 : List aV} (h2 : h ar0 = cO 1 f1) (k : Rn d 0 0 mX1_readNumber 0 [some (vR (some ar0)), some (vR r1), some (vI 2), some (vI 0), some (vI 9)] [] h n (fun v h1 n1 => Rn (d + 1) bc bs mX1_readNumbers 61 [some (vR (some ar0)), some (vR r1), some (vI x2)] (v.toList ++ []) h1 n1 Q)) : Rn (d + 1) (bc) (bs) mX1_readNumbers 52 [some (vR (some ar0)), some (vR r1), some (vI x2)] [] h n Q := by
  refine Rn_aload_n dX1_readNumbers_52 rfl rfl rfl ?_
  refine Rn_aload_n dX1_readNumbers_53 rfl rfl rfl ?_
  refine Rn_iconst dX1_readNumbers_54 rfl ?_
  refine Rn_iconst dX1_readNumbers_55 rfl ?_
  refine Rn_bipush dX1_readNumbers_56 rfl ?_
  exact Rn_callV (ci := 1) (avs := [vR r1, vI 2, vI 0, vI 9]) (st := []) (bc1 := 0) (bs1 := 0) (bc2 := bc) (bs2 := bs) fx_X1_readNumber dX1_readNumbers_58 wd_737 wd_739 wd_26 rfl h2 rfl (Nat.le_of_ble_eq_true rfl) (Nat.le_of_ble_eq_true rfl) (by omega) (by omega) (ls1 := [some (vR (some ar0)), some (vR r1), some (vI 2), some (vI 0), some (vI 9)]) rfl k
theorem BX1_readNumbers_61 {d bc bs : Nat} {h : aH} {n : Nat} {Q : aQ} {r0 r1 : Option Nat} {x2 : Int} (k : Q none h n) : Rn d (bc) (bs) mX1_readNumbers 61 [some (vR r0), some (vR r1), some (vI x2)] [] h n Q := by
  refine Rn_goto (tgt := 197) dX1_readNumbers_61 rfl ?_
  exact Rn_return rfl dX1_readNumbers_197 k
theorem BX1_readNumbers_64 {d bc bs : Nat} {h : aH} {n : Nat} {Q : aQ} {ar0 : Nat} {r1 : Option Nat} {x2 : Int} {f1 : List aV} (h2 : h ar0 = cO 1 f1) (k : Rn d 0 0 mX1_readNumber 0 [some (vR (some ar0)), some (vR r1), some (vI 1), some (vI 0), some (vI 2)] [] h n (fun v h1 n1 => Rn (d + 1) bc bs mX1_readNumbers 72 [some (vR (some ar0)), some (vR r1), some (vI x2)] (v.toList ++ []) h1 n1 Q)) : Rn (d + 1) (bc) (bs) mX1_readNumbers 64 [some (vR (some ar0)), some (vR r1), some (vI x2)] [] h n Q := by
  refine Rn_aload_n dX1_readNumbers_64 rfl rfl rfl ?_
  refine Rn_aload_n dX1_readNumbers_65 rfl rfl rfl ?_
  refine Rn_iconst dX1_readNumbers_66 rfl ?_
  refine Rn_iconst dX1_readNumbers_67 rfl ?_
  refine Rn_iconst dX1_readNumbers_68 rfl ?_
  exact Rn_callV (ci := 1) (avs := [vR r1, vI 1, vI 0, vI 2]) (st := []) (bc1 := 0) (bs1 := 0) (bc2 := bc) (bs2 := bs) fx_X1_readNumber dX1_readNumbers_69 wd_737 wd_739 wd_26 rfl h2 rfl (Nat.le_of_ble_eq_true rfl) (Nat.le_of_ble_eq_true rfl) (by omega) (by omega) (ls1 := [some (vR (some ar0)), some (vR r1), some (vI 1), some (vI 0), some (vI 2)]) rfl k
theorem BX1_readNumbers_72 {d bc bs : Nat} {h : aH} {n : Nat} {Q : aQ} {ar0 : Nat} {r1 : Option Nat} {x2 : Int} {f1 : List aV} (h2 : h ar0 = cO 1 f1) (k : Rn d 0 0 mX1_want 0 [some (vR (some ar0)), some (vR r1), some (vI 28)] [] h n (fun v h1 n1 => Rn (d + 1) bc bs mX1_readNumbers 79 [some (vR (some ar0)), some (vR r1), some (vI x2)] (v.toList ++ []) h1 n1 Q)) : Rn (d + 1) (bc) (bs) mX1_readNumbers 72 [some (vR (some ar0)), some (vR r1), some (vI x2)] [] h n Q := by
  refine Rn_aload_n dX1_readNumbers_72 rfl rfl rfl ?_
  refine Rn_aload_n dX1_readNumbers_73 rfl rfl rfl ?_
  refine Rn_bipush dX1_readNumbers_74 rfl ?_
  exact Rn_callV (ci := 1) (avs := [vR r1, vI 28]) (st := []) (bc1 := 0) (bs1 := 0) (bc2 := bc) (bs2 := bs) fx_X1_want dX1_readNumbers_76 wd_676 wd_678 wd_15 rfl h2 rfl (Nat.le_of_ble_eq_true rfl) (Nat.le_of_ble_eq_true rfl) (by omega) (by omega) (ls1 := [some (vR (some ar0)), some (vR r1), some (vI 28)]) rfl k
theorem BX1_readNumbers_79 {d bc bs : Nat} {h : aH} {n : Nat} {Q : aQ} {ar0 : Nat} {r1 : Option Nat} {x2 : Int} {f1 : List aV} (h2 : h ar0 = cO 1 f1) (k : Rn d 0 0 mX1_readNumber 0 [some (vR (some ar0)), some (vR r1), some (vI 2), some (vI 0), some (vI 9)] [] h n (fun v h1 n1 => Rn (d + 1) bc bs mX1_readNumbers 88 [some (vR (some ar0)), some (vR r1), some (vI x2)] (v.toList ++ []) h1 n1 Q)) : Rn (d + 1) (bc) (bs) mX1_readNumbers 79 [some (vR (some ar0)), some (vR r1), some (vI x2)] [] h n Q := by
  refine Rn_aload_n dX1_readNumbers_79 rfl rfl rfl ?_
  refine Rn_aload_n dX1_readNumbers_80 rfl rfl rfl ?_
  refine Rn_iconst dX1_readNumbers_81 rfl ?_
  refine Rn_iconst dX1_readNumbers_82 rfl ?_
  refine Rn_bipush dX1_readNumbers_83 rfl ?_
  exact Rn_callV (ci := 1) (avs := [vR r1, vI 2, vI 0, vI 9]) (st := []) (bc1 := 0) (bs1 := 0) (bc2 := bc) (bs2 := bs) fx_X1_readNumber dX1_readNumbers_85 wd_737 wd_739 wd_26 rfl h2 rfl (Nat.le_of_ble_eq_true rfl) (Nat.le_of_ble_eq_true rfl) (by omega) (by omega) (ls1 := [some (vR (some ar0)), some (vR r1), some (vI 2), some (vI 0), some (vI 9)]) rfl k
theorem BX1_readNumbers_88 {d bc bs : Nat} {h : aH} {n : Nat} {Q : aQ} {ar0 : Nat} {r1 : Option Nat} {x2 : Int} {f1 : List aV} (h2 : h ar0 = cO 1 f1) (k : Rn d 0 0 mX1_want 0 [some (vR (some ar0)), some (vR r1), some (vI 29)] [] h n (fun v h1 n1 => Rn (d + 1) bc bs mX1_readNumbers 95 [some (vR (some ar0)), some (vR r1), some (vI x2)] (v.toList ++ []) h1 n1 Q)) : Rn (d + 1) (bc) (bs) mX1_readNumbers 88 [some (vR (some ar0)), some (vR r1), some (vI x2)] [] h n Q := by
  refine Rn_aload_n dX1_readNumbers_88 rfl rfl rfl ?_
  refine Rn_aload_n dX1_readNumbers_89 rfl rfl rfl ?_
  refine Rn_bipush dX1_readNumbers_90 rfl ?_
  exact Rn_callV (ci := 1) (avs := [vR r1, vI 29]) (st := []) (bc1 := 0) (bs1 := 0) (bc2 := bc) (bs2 := bs) fx_X1_want dX1_readNumbers_92 wd_676 wd_678 wd_15 rfl h2 rfl (Nat.le_of_ble_eq_true rfl) (Nat.le_of_ble_eq_true rfl) (by omega) (by omega) (ls1 := [some (vR (some ar0)), some (vR r1), some (vI 29)]) rfl k
theorem BX1_readNumbers_95 {d bc bs : Nat} {h : aH} {n : Nat} {Q : aQ} {ar0 : Nat} {r1 : Option Nat} {x2 : Int} {f1 : List aV} (h2 : h ar0 = cO 1 f1) (k : Rn d 0 0 mX1_readNumber 0 [some (vR (some ar0)), some (vR r1), some (vI 3), some (vI 0), some (vI 9)] [] h n (fun v h1 n1 => Rn (d + 1) bc bs mX1_readNumbers 104 [some (vR (some ar0)), some (vR r1), some (vI x2)] (v.toList ++ []) h1 n1 Q)) : Rn (d + 1) (bc) (bs) mX1_readNumbers 95 [some (vR (some ar0)), some (vR r1), some (vI x2)] [] h n Q := by
  refine Rn_aload_n dX1_readNumbers_95 rfl rfl rfl ?_
  refine Rn_aload_n dX1_readNumbers_96 rfl rfl rfl ?_
  refine Rn_iconst dX1_readNumbers_97 rfl ?_
  refine Rn_iconst dX1_readNumbers_98 rfl ?_
  refine Rn_bipush dX1_readNumbers_99 rfl ?_
  exact Rn_callV (ci := 1) (avs := [vR r1, vI 3, vI 0, vI 9]) (st := []) (bc1 := 0) (bs1 := 0) (bc2 := bc) (bs2 := bs) fx_X1_readNumber dX1_readNumbers_101 wd_737 wd_739 wd_26 rfl h2 rfl (Nat.le_of_ble_eq_true rfl) (Nat.le_of_ble_eq_true rfl) (by omega) (by omega) (ls1 := [some (vR (some ar0)), some (vR r1), some (vI 3), some (vI 0), some (vI 9)]) rfl k
theorem BX1_readNumbers_104 {d bc bs : Nat} {h : aH} {n : Nat} {Q : aQ} {r0 r1 : Option Nat} {x2 : Int} (k : Q none h n) : Rn d (bc) (bs) mX1_readNumbers 104 [some (vR r0), some (vR r1), some (vI x2)] [] h n Q := by
  refine Rn_goto (tgt := 197) dX1_readNumbers_104 rfl ?_
  exact Rn_return rfl dX1_readNumbers_197 k
theorem BX1_readNumbers_107 {d bc bs : Nat} {h : aH} {n : Nat} {Q : aQ} {ar0 : Nat} {r1 : Option Nat} {x2 : Int} {f1 : List aV} (h2 : h ar0 = cO 1 f1) (k : Rn d 0 0 mX1_readNumber 0 [some (vR (some ar0)), some (vR r1), some (vI 1), some (vI 0), some (vI 5)] [] h n (fun v h1 n1 => Rn (d + 1) bc bs mX1_readNumbers 115 [some (vR (some ar0)), some (vR r1), some (vI x2)] (v.toList ++ []) h1 n1 Q)) : Rn (d + 1) (bc) (bs) mX1_readNumbers 107 [some (vR (some ar0)), some (vR r1), some (vI x2)] [] h n Q := by
  refine Rn_aload_n dX1_readNumbers_107 rfl rfl rfl ?_
  refine Rn_aload_n dX1_readNumbers_108 rfl rfl rfl ?_
  refine Rn_iconst dX1_readNumbers_109 rfl ?_
  refine Rn_iconst dX1_readNumbers_110 rfl ?_
  refine Rn_iconst dX1_readNumbers_111 rfl ?_
  exact Rn_callV (ci := 1) (avs := [vR r1, vI 1, vI 0, vI 5]) (st := []) (bc1 := 0) (bs1 := 0) (bc2 := bc) (bs2 := bs) fx_X1_readNumber dX1_readNumbers_112 wd_737 wd_739 wd_26 rfl h2 rfl (Nat.le_of_ble_eq_true rfl) (Nat.le_of_ble_eq_true rfl) (by omega) (by omega) (ls1 := [some (vR (some ar0)), some (vR r1), some (vI 1), some (vI 0), some (vI 5)]) rfl k
theorem BX1_readNumbers_115 {d bc bs : Nat} {h : aH} {n : Nat} {Q : aQ} {ar0 : Nat} {r1 : Option Nat} {x2 : Int} {f1 : List aV} (h2 : h ar0 = cO 1 f1) (k : Rn d 0 0 mX1_want 0 [some (vR (some ar0)), some (vR r1), some (vI 29)] [] h n (fun v h1 n1 => Rn (d + 1) bc bs mX1_readNumbers 122 [some (vR (some ar0)), some (vR r1), some (vI x2)] (v.toList ++ []) h1 n1 Q)) : Rn (d + 1) (bc) (bs) mX1_readNumbers 115 [some (vR (some ar0)), some (vR r1), some (vI x2)] [] h n Q := by
  refine Rn_aload_n dX1_readNumbers_115 rfl rfl rfl ?_
  refine Rn_aload_n dX1_readNumbers_116 rfl rfl rfl ?_
  refine Rn_bipush dX1_readNumbers_117 rfl ?_
  exact Rn_callV (ci := 1) (avs := [vR r1, vI 29]) (st := []) (bc1 := 0) (bs1 := 0) (bc2 := bc) (bs2 := bs) fx_X1_want dX1_readNumbers_119 wd_676 wd_678 wd_15 rfl h2 rfl (Nat.le_of_ble_eq_true rfl) (Nat.le_of_ble_eq_true rfl) (by omega) (by omega) (ls1 := [some (vR (some ar0)), some (vR r1), some (vI 29)]) rfl k
theorem BX1_readNumbers_122 {d bc bs : Nat} {h : aH} {n : Nat} {Q : aQ} {ar0 : Nat} {r1 : Option Nat} {x2 : Int} {f1 : List aV} (h2 : h ar0 = cO 1 f1) (k : Rn d 0 0 mX1_readNumber 0 [some (vR (some ar0)), some (vR r1), some (vI 2), some (vI 0), some (vI 5)] [] h n (fun v h1 n1 => Rn (d + 1) bc bs mX1_readNumbers 130 [some (vR (some ar0)), some (vR r1), some (vI x2)] (v.toList ++ []) h1 n1 Q)) : Rn (d + 1) (bc) (bs) mX1_readNumbers 122 [some (vR (some ar0)), some (vR r1), some (vI x2)] [] h n Q := by
  refine Rn_aload_n dX1_readNumbers_122 rfl rfl rfl ?_
  refine Rn_aload_n dX1_readNumbers_123 rfl rfl rfl ?_
  refine Rn_iconst dX1_readNumbers_124 rfl ?_
  refine Rn_iconst dX1_readNumbers_125 rfl ?_
  refine Rn_iconst dX1_readNumbers_126 rfl ?_
  exact Rn_callV (ci := 1) (avs := [vR r1, vI 2, vI 0, vI 5]) (st := []) (bc1 := 0) (bs1 := 0) (bc2 := bc) (bs2 := bs) fx_X1_readNumber dX1_readNumbers_127 wd_737 wd_739 wd_26 rfl h2 rfl (Nat.le_of_ble_eq_true rfl) (Nat.le_of_ble_eq_true rfl) (by omega) (by omega) (ls1 := [some (vR (some ar0)), some (vR r1), some (vI 2), some (vI 0), some (vI 5)]) rfl k
theorem BX1_readNumbers_130 {d bc bs : Nat} {h : aH} {n : Nat} {Q : aQ} {ar0 : Nat} {r1 : Option Nat} {x2 : Int} {f1 : List aV} (h2 : h ar0 = cO 1 f1) (k : Rn d 0 0 mX1_want 0 [some (vR (some ar0)), some (vR r1), some (vI 25)] [] h n (fun v h1 n1 => Rn (d + 1) bc bs mX1_readNumbers 137 [some (vR (some ar0)), some (vR r1), some (vI x2)] (v.toList ++ []) h1 n1 Q)) : Rn (d + 1) (bc) (bs) mX1_readNumbers 130 [some (vR (some ar0)), some (vR r1), some (vI x2)] [] h n Q := by
  refine Rn_aload_n dX1_readNumbers_130 rfl rfl rfl ?_
  refine Rn_aload_n dX1_readNumbers_131 rfl rfl rfl ?_
  refine Rn_bipush dX1_readNumbers_132 rfl ?_
  exact Rn_callV (ci := 1) (avs := [vR r1, vI 25]) (st := []) (bc1 := 0) (bs1 := 0) (bc2 := bc) (bs2 := bs) fx_X1_want dX1_readNumbers_134 wd_676 wd_678 wd_15 rfl h2 rfl (Nat.le_of_ble_eq_true rfl) (Nat.le_of_ble_eq_true rfl) (by omega) (by omega) (ls1 := [some (vR (some ar0)), some (vR r1), some (vI 25)]) rfl k
theorem BX1_readNumbers_137 {d bc bs : Nat} {h : aH} {n : Nat} {Q : aQ} {ar0 : Nat} {r1 : Option Nat} {x2 : Int} {f1 : List aV} (h2 : h ar0 = cO 1 f1) (k : Rn d 0 0 mX1_readNumber 0 [some (vR (some ar0)), some (vR r1), some (vI 3), some (vI 1), some (vI 99)] [] h n (fun v h1 n1 => Rn (d + 1) bc bs mX1_readNumbers 146 [some (vR (some ar0)), some (vR r1), some (vI x2)] (v.toList ++ []) h1 n1 Q)) : Rn (d + 1) (bc) (bs) mX1_readNumbers 137 [some (vR (some ar0)), some (vR r1), some (vI x2)] [] h n Q := by
  refine Rn_aload_n dX1_readNumbers_137 rfl rfl rfl ?_
  refine Rn_aload_n dX1_readNumbers_138 rfl rfl rfl ?_
  refine Rn_iconst dX1_readNumbers_139 rfl ?_
  refine Rn_iconst dX1_readNumbers_140 rfl ?_
  refine Rn_bipush dX1_readNumbers_141 rfl ?_
  exact Rn_callV (ci := 1) (avs := [vR r1, vI 3, vI 1, vI 99]) (st := []) (bc1 := 0) (bs1 := 0) (bc2 := bc) (bs2 := bs) fx_X1_readNumber dX1_readNumbers_143 wd_737 wd_739 wd_26 rfl h2 rfl (Nat.le_of_ble_eq_true rfl) (Nat.le_of_ble_eq_true rfl) (by omega) (by omega) (ls1 := [some (vR (some ar0)), some (vR r1), some (vI 3), some (vI 1), some (vI 99)]) rfl k
theorem BX1_readNumbers_146 {d bc bs : Nat} {h : aH} {n : Nat} {Q : aQ} {r0 r1 : Option Nat} {x2 : Int} (k : Q none h n) : Rn d (bc) (bs) mX1_readNumbers 146 [some (vR r0), some (vR r1), some (vI x2)] [] h n Q := by
  refine Rn_goto (tgt := 197) dX1_readNumbers_146 rfl ?_
  exact Rn_return rfl dX1_readNumbers_197 k
theorem BX1_readNumbers_149 {d bc bs : Nat} {h : aH} {n : Nat} {Q : aQ} {ar0 : Nat} {r1 : Option Nat} {x2 : Int} {f1 : List aV} (h2 : h ar0 = cO 1 f1) (k : Rn d 0 0 mX1_readNumber 0 [some (vR (some ar0)), some (vR r1), some (vI 1), some (vI 0), some (vI 11)] [] h n (fun v h1 n1 => Rn (d + 1) bc bs mX1_readNumbers 158 [some (vR (some ar0)), some (vR r1), some (vI x2)] (v.toList ++ []) h1 n1 Q)) : Rn (d + 1) (bc) (bs) mX1_readNumbers 149 [some (vR (some ar0)), some (vR r1), some (vI x2)] [] h n Q := by
  refine Rn_aload_n dX1_readNumbers_149 rfl rfl rfl ?_
  refine Rn_aload_n dX1_readNumbers_150 rfl rfl rfl ?_
  refine Rn_iconst dX1_readNumbers_151 rfl ?_
  refine Rn_iconst dX1_readNumbers_152 rfl ?_
  refine Rn_bipush dX1_readNumbers_153 rfl ?_
  exact Rn_callV (ci := 1) (avs := [vR r1, vI 1, vI 0, vI 11]) (st := []) (bc1 := 0) (bs1 := 0) (bc2 := bc) (bs2 := bs) fx_X1_readNumber dX1_readNumbers_155 wd_737 wd_739 wd_26 rfl h2 rfl (Nat.le_of_ble_eq_true rfl) (Nat.le_of_ble_eq_true rfl) (by omega) (by omega) (ls1 := [some (vR (some ar0)), some (vR r1), some (vI 1), some (vI 0), some (vI 11)]) rfl k
theorem BX1_readNumbers_158 {d bc bs : Nat} {h : aH} {n : Nat} {Q : aQ} {ar0 : Nat} {r1 : Option Nat} {x2 : Int} {f1 : List aV} (h2 : h ar0 = cO 1 f1) (k : Rn d 0 0 mX1_want 0 [some (vR (some ar0)), some (vR r1), some (vI 31)] [] h n (fun v h1 n1 => Rn (d + 1) bc bs mX1_readNumbers 165 [some (vR (some ar0)), some (vR r1), some (vI x2)] (v.toList ++ []) h1 n1 Q)) : Rn (d + 1) (bc) (bs) mX1_readNumbers 158 [some (vR (some ar0)), some (vR r1), some (vI x2)] [] h n Q := by
  refine Rn_aload_n dX1_readNumbers_158 rfl rfl rfl ?_
  refine Rn_aload_n dX1_readNumbers_159 rfl rfl rfl ?_
  refine Rn_bipush dX1_readNumbers_160 rfl ?_
  exact Rn_callV (ci := 1) (avs := [vR r1, vI 31]) (st := []) (bc1 := 0) (bs1 := 0) (bc2 := bc) (bs2 := bs) fx_X1_want dX1_readNumbers_162 wd_676 wd_678 wd_15 rfl h2 rfl (Nat.le_of_ble_eq_true rfl) (Nat.le_of_ble_eq_true rfl) (by omega) (by omega) (ls1 := [some (vR (some ar0)), some (vR r1), some (vI 31)]) rfl k
theorem BX1_readNumbers_165 {d bc bs : Nat} {h : aH} {n : Nat} {Q : aQ} {ar0 : Nat} {r1 : Option Nat} {x2 : Int} {f1 : List aV} (h2 : h ar0 = cO 1 f1) (k : Rn d 0 0 mX1_readNumber 0 [some (vR (some ar0)), some (vR r1), some (vI 2), some (vI 0), some (vI 5)] [] h n (fun v h1 n1 => Rn (d + 1) bc bs mX1_readNumbers 173 [some (vR (some ar0)), some (vR r1), some (vI x2)] (v.toList ++ []) h1 n1 Q)) : Rn (d + 1) (bc) (bs) mX1_readNumbers 165 [some (vR (some ar0)), some (vR r1), some (vI x2)] [] h n Q := by
  refine Rn_aload_n dX1_readNumbers_165 rfl rfl rfl ?_
  refine Rn_aload_n dX1_readNumbers_166 rfl rfl rfl ?_
  refine Rn_iconst dX1_readNumbers_167 rfl ?_
  refine Rn_iconst dX1_readNumbers_168 rfl ?_
  refine Rn_iconst dX1_readNumbers_169 rfl ?_
  exact Rn_callV (ci := 1) (avs := [vR r1, vI 2, vI 0, vI 5]) (st := []) (bc1 := 0) (bs1 := 0) (bc2 := bc) (bs2 := bs) fx_X1_readNumber dX1_readNumbers_170 wd_737 wd_739 wd_26 rfl h2 rfl (Nat.le_of_ble_eq_true rfl) (Nat.le_of_ble_eq_true rfl) (by omega) (by omega) (ls1 := [some (vR (some ar0)), some (vR r1), some (vI 2), some (vI 0), some (vI 5)]) rfl k
theorem BX1_readNumbers_173 {d bc bs : Nat} {h : aH} {n : Nat} {Q : aQ} {r0 r1 : Option Nat} {x2 : Int} (k : Q none h n) : Rn d (bc) (bs) mX1_readNumbers 173 [some (vR r0), some (vR r1), some (vI x2)] [] h n Q := by
  refine Rn_goto (tgt := 197) dX1_readNumbers_173 rfl ?_
  exact Rn_return rfl dX1_readNumbers_197 k
theorem BX1_readNumbers_176 {d bc bs : Nat} {h : aH} {n : Nat} {Q : aQ} {ar0 : Nat} {r1 : Option Nat} {x2 : Int} {f1 : List aV} (h2 : h ar0 = cO 1 f1) (k : Rn d 0 0 mX1_readNumber 0 [some (vR (some ar0)), some (vR r1), some (vI 1), some (vI 0), some (vI 11)] [] h n (fun v h1 n1 => Rn (d + 1) bc bs mX1_readNumbers 185 [some (vR (some ar0)), some (vR r1), some (vI x2)] (v.toList ++ []) h1 n1 Q)) : Rn (d + 1) (bc) (bs) mX1_readNumbers 176 [some (vR (some ar0)), some (vR r1), some (vI x2)] [] h n Q := by
  refine Rn_aload_n dX1_readNumbers_176 rfl rfl rfl ?_
  refine Rn_aload_n dX1_readNumbers_177 rfl rfl rfl ?_
  refine Rn_iconst dX1_readNumbers_178 rfl ?_
  refine Rn_iconst dX1_readNumbers_179 rfl ?_
  refine Rn_bipush dX1_readNumbers_180 rfl ?_
  exact Rn_callV (ci := 1) (avs := [vR r1, vI 1, vI 0, vI 11]) (st := []) (bc1 := 0) (bs1 := 0) (bc2 := bc) (bs2 := bs) fx_X1_readNumber dX1_readNumbers_182 wd_737 wd_739 wd_26 rfl h2 rfl (Nat.le_of_ble_eq_true rfl) (Nat.le_of_ble_eq_true rfl) (by omega) (by omega) (ls1 := [some (vR (some ar0)), some (vR r1), some (vI 1), some (vI 0), some (vI 11)]) rfl k
theorem BX1_readNumbers_185 {d bc bs : Nat} {h : aH} {n : Nat} {Q : aQ} {r0 r1 : Option Nat} {x2 : Int} (k : Q none h n) : Rn d (bc) (bs) mX1_readNumbers 185 [some (vR r0), some (vR r1), some (vI x2)] [] h n Q := by
  refine Rn_goto (tgt := 197) dX1_readNumbers_185 rfl ?_
  exact Rn_return rfl dX1_readNumbers_197 k
theorem BX1_readNumbers_188 {d bc bs : Nat} {h : aH} {n : Nat} {Q : aQ} {ar0 : Nat} {r1 : Option Nat} {x2 : Int} {f1 : List aV} (h2 : h ar0 = cO 1 f1) (k : Rn d 0 0 mX1_readNumber 0 [some (vR (some ar0)), some (vR r1), some (vI 1), some (vI 1), some (vI 60)] [] h n (fun v h1 n1 => Rn (d + 1) bc bs mX1_readNumbers 197 [some (vR (some ar0)), some (vR r1), some (vI x2)] (v.toList ++ []) h1 n1 Q)) : Rn (d + 1) (bc) (bs) mX1_readNumbers 188 [some (vR (some ar0)), some (vR r1), some (vI x2)] [] h n Q := by
  refine Rn_aload_n dX1_readNumbers_188 rfl rfl rfl ?_
  refine Rn_aload_n dX1_readNumbers_189 rfl rfl rfl ?_
  refine Rn_iconst dX1_readNumbers_190 rfl ?_
  refine Rn_iconst dX1_readNumbers_191 rfl ?_
  refine Rn_bipush dX1_readNumbers_192 rfl ?_
  exact Rn_callV (ci := 1) (avs := [vR r1, vI 1, vI 1, vI 60]) (st := []) (bc1 := 0) (bs1 := 0) (bc2 := bc) (bs2 := bs) fx_X1_readNumber dX1_readNumbers_194 wd_737 wd_739 wd_26 rfl h2 rfl (Nat.le_of_ble_eq_true rfl) (Nat.le_of_ble_eq_true rfl) (by omega) (by omega) (ls1 := [some (vR (some ar0)), some (vR r1), some (vI 1), some (vI 1), some (vI 60)]) rfl k
theorem BX1_readNumbers_197 {d bc bs : Nat} {h : aH} {n : Nat} {Q : aQ} {r0 r1 : Option Nat} {x2 : Int} (k : Q none h n) : Rn d (bc) (bs) mX1_readNumbers 197 [some (vR r0), some (vR r1), some (vI x2)] [] h n Q := by
  exact Rn_return rfl dX1_readNumbers_197 k
theorem dX1_readNumber_0 : decode cX1_readNumber 0 = .ok (.aload_n 0, 1) := by decide +kernel
theorem dX1_readNumber_1 : decode cX1_readNumber 1 = .ok (.aload_n 1, 1) := by decide +kernel
theorem dX1_readNumber_2 : decode cX1_readNumber 2 = .ok (.iconst 2, 1) := by decide +kernel
theorem dX1_readNumber_3 : decode cX1_readNumber 3 = .ok (.invokevirtual 73, 3) := by decide +kernel
theorem dX1_readNumber_6 : decode cX1_readNumber 6 = .ok (.ifCond .ne 12, 3) := by decide +kernel
theorem dX1_readNumber_9 : decode cX1_readNumber 9 = .ok (.aload_n 0, 1) := by decide +kernel
theorem dX1_readNumber_10 : decode cX1_readNumber 10 = .ok (.aload_n 1, 1) := by decide +kernel
theorem dX1_readNumber_11 : decode cX1_readNumber 11 = .ok (.iconst 1, 1) := by decide +kernel
theorem dX1_readNumber_12 : decode cX1_readNumber 12 = .ok (.invokevirtual 80, 3) := by decide +kernel
theorem dX1_readNumber_15 : decode cX1_readNumber 15 = .ok (.goto 38, 3) := by decide +kernel
theorem dX1_readNumber_18 : decode cX1_readNumber 18 = .ok (.aload_n 1, 1) := by decide +kernel
theorem dX1_readNumber_19 : decode cX1_readNumber 19 = .ok (.getfield 115, 3) := by decide +kernel
theorem dX1_readNumber_22 : decode cX1_readNumber 22 = .ok (.iload_n 3, 1) := by decide +kernel
theorem dX1_readNumber_23 : decode cX1_readNumber 23 = .ok (.iload 4, 2) := by decide +kernel
theorem dX1_readNumber_25 : decode cX1_readNumber 25 = .ok (.invokestatic 118, 3) := by decide +kernel
theorem dX1_readNumber_28 : decode cX1_readNumber 28 = .ok (.ifCond .ne 12, 3) := by decide +kernel
theorem dX1_readNumber_31 : decode cX1_readNumber 31 = .ok (.aload_n 0, 1) := by decide +kernel
theorem dX1_readNumber_32 : decode cX1_readNumber 32 = .ok (.aload_n 1, 1) := by decide +kernel
theorem dX1_readNumber_33 : decode cX1_readNumber 33 = .ok (.iconst 2, 1) := by decide +kernel
theorem dX1_readNumber_34 : decode cX1_readNumber 34 = .ok (.invokevirtual 80, 3) := by decide +kernel
theorem dX1_readNumber_37 : decode cX1_readNumber 37 = .ok (.goto 16, 3) := by decide +kernel
theorem dX1_readNumber_40 : decode cX1_readNumber 40 = .ok (.aload_n 0, 1) := by decide +kernel
theorem dX1_readNumber_41 : decode cX1_readNumber 41 = .ok (.iload_n 2, 1) := by decide +kernel
theorem dX1_readNumber_42 : decode cX1_readNumber 42 = .ok (.aload_n 1, 1) := by decide +kernel
theorem dX1_readNumber_43 : decode cX1_readNumber 43 = .ok (.getfield 115, 3) := by decide +kernel
theorem dX1_readNumber_46 : decode cX1_readNumber 46 = .ok (.invokevirtual 84, 3) := by decide +kernel
theorem dX1_readNumber_49 : decode cX1_readNumber 49 = .ok (.aload_n 1, 1) := by decide +kernel
theorem dX1_readNumber_50 : decode cX1_readNumber 50 = .ok (.invokevirtual 77, 3) := by decide +kernel
theorem dX1_readNumber_53 : decode cX1_readNumber 53 = .ok (.return_, 1) := by decide +kernel
theorem BX1_readNumber_0 {d bc bs : Nat} {h : aH} {n : Nat} {Q : aQ} {ar0 : Nat} {r1 : Option Nat} {x2 x3 x4 : Int} {f1 : List aV} (h2 : h ar0 = cO 1 f1) (k : Rn d 0 0 mX1_sees 0 [some (vR (some ar0)), some (vR r1), some (vI 2)] [] h n (fun v h1 n1 => Rn (d + 1) bc bs mX1_readNumber 6 [some (vR (some ar0)), some (vR r1), some (vI x2), some (vI x3), some (vI x4)] (v.toList ++ []) h1 n1 Q)) : Rn (d + 1) (bc) (bs) mX1_readNumber 0 [some (vR (some ar0)), some (vR r1), some (vI x2), some (vI x3), some (vI x4)] [] h n Q := by
  refine Rn_aload_n dX1_readNumber_0 rfl rfl rfl ?_
  refine Rn_aload_n dX1_readNumber_1 rfl rfl rfl ?_
  refine Rn_iconst dX1_readNumber_2 rfl ?_
  exact Rn_callV (ci := 1) (avs := [vR r1, vI 2]) (st := []) (bc1 := 0) (bs1 := 0) (bc2 := bc) (bs2 := bs) fx_X1_sees dX1_readNumber_3 wd_680 wd_682 wd_16 rfl h2 rfl (Nat.le_of_ble_eq_true rfl) (Nat.le_of_ble_eq_true rfl) (by omega) (by omega) (ls1 := [some (vR (some ar0)), some (vR r1), some (vI 2)]) rfl k
theorem BX1_readNumber_6 {d bc bs : Nat} {h : aH} {n : Nat} {Q : aQ} {r0 r1 : Option Nat} {x2 x3 x4 s0 : Int} (kt : s0 ≠ 0 → Rn d bc bs mX1_readNumber 18 [some (vR r0), some (vR r1), some (vI x2), some (vI x3), some (vI x4)] [] h n Q) (kf : s0 = 0 → Rn d bc bs mX1_readNumber 9 [some (vR r0), some (vR r1), some (vI x2), some (vI x3), some (vI x4)] [] h n Q) : Rn d (bc) (bs) mX1_readNumber 6 [some (vR r0), some (vR r1), some (vI x2), some (vI x3), some (vI x4)] [vI s0] h n Q := by
  refine Rn_ifne (tgt := 18) dX1_readNumber_6 rfl ?_ ?_
  · exact kt
  · exact kf
theorem BX1_readNumber_9 {d bc bs : Nat} {h : aH} {n : Nat} {Q : aQ} {ar0 : Nat} {r1 : Option Nat} {x2 x3 x4 : Int} {f1 : List aV} (h2 : h ar0 = cO 1 f1) (k : Rn d 0 0 mX1_refuse 0 [some (vR (some ar0)), some (vR r1), some (vI 1)] [] h n (fun v h1 n1 => Rn (d + 1) bc bs mX1_readNumber 15 [some (vR (some ar0)), some (vR r1), some (vI x2), some (vI x3), some (vI x4)] (v.toList ++ []) h1 n1 Q)) : Rn (d + 1) (bc) (bs) mX1_readNumber 9 [some (vR (some ar0)), some (vR r1), some (vI x2), some (vI x3), some (vI x4)] [] h n Q := by
  refine Rn_aload_n dX1_readNumber_9 rfl rfl rfl ?_
  refine Rn_aload_n dX1_readNumber_10 rfl rfl rfl ?_
  refine Rn_iconst dX1_readNumber_11 rfl ?_
  exact Rn_callV (ci := 1) (avs := [vR r1, vI 1]) (st := []) (bc1 := 0) (bs1 := 0) (bc2 := bc) (bs2 := bs) fx_X1_refuse dX1_readNumber_12 wd_628 wd_630 wd_5 rfl h2 rfl (Nat.le_of_ble_eq_true rfl) (Nat.le_of_ble_eq_true rfl) (by omega) (by omega) (ls1 := [some (vR (some ar0)), some (vR r1), some (vI 1)]) rfl k
theorem BX1_readNumber_15 {d bc bs : Nat} {h : aH} {n : Nat} {Q : aQ} {r0 r1 : Option Nat} {x2 x3 x4 : Int} (k : Q none h n) : Rn d (bc) (bs) mX1_readNumber 15 [some (vR r0), some (vR r1), some (vI x2), some (vI x3), some (vI x4)] [] h n Q := by
  refine Rn_goto (tgt := 53) dX1_readNumber_15 rfl ?_
  exact Rn_return rfl dX1_readNumber_53 k
theorem BX1_readNumber_18 {d bc bs : Nat} {h : aH} {n : Nat} {Q : aQ} {r0 : Option Nat} {ar1 : Nat} {x2 x3 x4 v3 : Int} {f1 : List aV} (h2 : h ar1 = cO 9 f1) (g4 : f1[4]? = some (vI v3)) (k : Rn d 0 0 mX12_within 0 [some (vI v3), some (vI x3), some (vI x4)] [] h n (fun v h1 n1 => Rn (d + 1) bc bs mX1_readNumber 28 [some (vR r0), some (vR (some ar1)), some (vI x2), some (vI x3), some (vI x4)] (v.toList ++ []) h1 n1 Q)) : Rn (d + 1) (bc) (bs) mX1_readNumber 18 [some (vR r0), some (vR (some ar1)), some (vI x2), some (vI x3), some (vI x4)] [] h n Q := by
  refine Rn_aload_n dX1_readNumber_18 rfl rfl rfl ?_
  refine Rn_getfield (ci := 9) (k := 4) dX1_readNumber_19 rfl in_9 (Nat.le_of_ble_eq_true rfl) wd_334 rfl h2 g4 ?_
  refine Rn_iload_n dX1_readNumber_22 rfl rfl ?_
  refine Rn_iload dX1_readNumber_23 rfl ?_
  exact Rn_callS (avs := [vI v3, vI x3, vI x4]) (st := []) (bc1 := 0) (bs1 := 0) (bc2 := bc) (bs2 := bs) fx_X12_within dX1_readNumber_25 (Or.inr ⟨"BottledPost", List.mem_of_getElem? (i := 16) rfl⟩) wd_503 rfl (Nat.le_of_ble_eq_true rfl) (Nat.le_of_ble_eq_true rfl) (by omega) (by omega) (ls1 := [some (vI v3), some (vI x3), some (vI x4)]) rfl k
theorem BX1_readNumber_28 {d bc bs : Nat} {h : aH} {n : Nat} {Q : aQ} {r0 r1 : Option Nat} {x2 x3 x4 s0 : Int} (kt : s0 ≠ 0 → Rn d bc bs mX1_readNumber 40 [some (vR r0), some (vR r1), some (vI x2), some (vI x3), some (vI x4)] [] h n Q) (kf : s0 = 0 → Rn d bc bs mX1_readNumber 31 [some (vR r0), some (vR r1), some (vI x2), some (vI x3), some (vI x4)] [] h n Q) : Rn d (bc) (bs) mX1_readNumber 28 [some (vR r0), some (vR r1), some (vI x2), some (vI x3), some (vI x4)] [vI s0] h n Q := by
  refine Rn_ifne (tgt := 40) dX1_readNumber_28 rfl ?_ ?_
  · exact kt
  · exact kf
theorem BX1_readNumber_31 {d bc bs : Nat} {h : aH} {n : Nat} {Q : aQ} {ar0 : Nat} {r1 : Option Nat} {x2 x3 x4 : Int} {f1 : List aV} (h2 : h ar0 = cO 1 f1) (k : Rn d 0 0 mX1_refuse 0 [some (vR (some ar0)), some (vR r1), some (vI 2)] [] h n (fun v h1 n1 => Rn (d + 1) bc bs mX1_readNumber 37 [some (vR (some ar0)), some (vR r1), some (vI x2), some (vI x3), some (vI x4)] (v.toList ++ []) h1 n1 Q)) : Rn (d + 1) (bc) (bs) mX1_readNumber 31 [some (vR (some ar0)), some (vR r1), some (vI x2), some (vI x3), some (vI x4)] [] h n Q := by
  refine Rn_aload_n dX1_readNumber_31 rfl rfl rfl ?_
  refine Rn_aload_n dX1_readNumber_32 rfl rfl rfl ?_
  refine Rn_iconst dX1_readNumber_33 rfl ?_
  exact Rn_callV (ci := 1) (avs := [vR r1, vI 2]) (st := []) (bc1 := 0) (bs1 := 0) (bc2 := bc) (bs2 := bs) fx_X1_refuse dX1_readNumber_34 wd_628 wd_630 wd_5 rfl h2 rfl (Nat.le_of_ble_eq_true rfl) (Nat.le_of_ble_eq_true rfl) (by omega) (by omega) (ls1 := [some (vR (some ar0)), some (vR r1), some (vI 2)]) rfl k
theorem BX1_readNumber_37 {d bc bs : Nat} {h : aH} {n : Nat} {Q : aQ} {r0 r1 : Option Nat} {x2 x3 x4 : Int} (k : Q none h n) : Rn d (bc) (bs) mX1_readNumber 37 [some (vR r0), some (vR r1), some (vI x2), some (vI x3), some (vI x4)] [] h n Q := by
  refine Rn_goto (tgt := 53) dX1_readNumber_37 rfl ?_
  exact Rn_return rfl dX1_readNumber_53 k
theorem BX1_readNumber_40 {d bc bs : Nat} {h : aH} {n : Nat} {Q : aQ} {ar0 ar1 : Nat} {x2 x3 x4 v3 : Int} {f1 f5 : List aV} (h2 : h ar1 = cO 9 f1) (g4 : f1[4]? = some (vI v3)) (h6 : h ar0 = cO 1 f5) (k : Rn d 0 0 mX1_notePart 0 [some (vR (some ar0)), some (vI x2), some (vI v3)] [] h n (fun v h1 n1 => Rn (d + 1) bc bs mX1_readNumber 49 [some (vR (some ar0)), some (vR (some ar1)), some (vI x2), some (vI x3), some (vI x4)] (v.toList ++ []) h1 n1 Q)) : Rn (d + 1) (bc) (bs) mX1_readNumber 40 [some (vR (some ar0)), some (vR (some ar1)), some (vI x2), some (vI x3), some (vI x4)] [] h n Q := by
  refine Rn_aload_n dX1_readNumber_40 rfl rfl rfl ?_
  refine Rn_iload_n dX1_readNumber_41 rfl rfl ?_
  refine Rn_aload_n dX1_readNumber_42 rfl rfl rfl ?_
  refine Rn_getfield (ci := 9) (k := 4) dX1_readNumber_43 rfl in_9 (Nat.le_of_ble_eq_true rfl) wd_334 rfl h2 g4 ?_
  exact Rn_callV (ci := 1) (avs := [vI x2, vI v3]) (st := []) (bc1 := 0) (bs1 := 0) (bc2 := bc) (bs2 := bs) fx_X1_notePart dX1_readNumber_46 wd_636 wd_638 wd_7 rfl h6 rfl (Nat.le_of_ble_eq_true rfl) (Nat.le_of_ble_eq_true rfl) (by omega) (by omega) (ls1 := [some (vR (some ar0)), some (vI x2), some (vI v3)]) rfl k
theorem BX1_readNumber_49 {d bc bs : Nat} {h : aH} {n : Nat} {Q : aQ} {r0 : Option Nat} {ar1 : Nat} {x2 x3 x4 : Int} {f1 : List aV} (h2 : h ar1 = cO 9 f1) (k : Rn d 0 0 mX9_comeToNext 0 [some (vR (some ar1)), none] [] h n (fun v h1 n1 => Rn (d + 1) bc bs mX1_readNumber 53 [some (vR r0), some (vR (some ar1)), some (vI x2), some (vI x3), some (vI x4)] (v.toList ++ []) h1 n1 Q)) : Rn (d + 1) (bc) (bs) mX1_readNumber 49 [some (vR r0), some (vR (some ar1)), some (vI x2), some (vI x3), some (vI x4)] [] h n Q := by
  refine Rn_aload_n dX1_readNumber_49 rfl rfl rfl ?_
  exact Rn_callV (ci := 9) (avs := []) (st := []) (bc1 := 0) (bs1 := 0) (bc2 := bc) (bs2 := bs) fx_X9_comeToNext dX1_readNumber_50 wd_641 wd_544 wd_545 rfl h2 rfl (Nat.le_of_ble_eq_true rfl) (Nat.le_of_ble_eq_true rfl) (by omega) (by omega) (ls1 := [some (vR (some ar1)), none]) rfl k
theorem BX1_readNumber_53 {d bc bs : Nat} {h : aH} {n : Nat} {Q : aQ} {r0 r1 : Option Nat} {x2 x3 x4 : Int} (k : Q none h n) : Rn d (bc) (bs) mX1_readNumber 53 [some (vR r0), some (vR r1), some (vI x2), some (vI x3), some (vI x4)] [] h n Q := by
  exact Rn_return rfl dX1_readNumber_53 k
theorem dX1_addSign_0 : decode cX1_addSign 0 = .ok (.aload_n 0, 1) := by decide +kernel
theorem dX1_addSign_1 : decode cX1_addSign 1 = .ok (.getfield 88, 3) := by decide +kernel
theorem dX1_addSign_4 : decode cX1_addSign 4 = .ok (.istore_n 3, 1) := by decide +kernel
theorem dX1_addSign_5 : decode cX1_addSign 5 = .ok (.aload_n 0, 1) := by decide +kernel
theorem dX1_addSign_6 : decode cX1_addSign 6 = .ok (.getfield 17, 3) := by decide +kernel
theorem dX1_addSign_9 : decode cX1_addSign 9 = .ok (.iload_n 3, 1) := by decide +kernel
theorem dX1_addSign_10 : decode cX1_addSign 10 = .ok (.iload_n 1, 1) := by decide +kernel
theorem dX1_addSign_11 : decode cX1_addSign 11 = .ok (.iload_n 2, 1) := by decide +kernel
theorem dX1_addSign_12 : decode cX1_addSign 12 = .ok (.invokestatic 122, 3) := by decide +kernel
theorem dX1_addSign_15 : decode cX1_addSign 15 = .ok (.invokestatic 107, 3) := by decide +kernel
theorem dX1_addSign_18 : decode cX1_addSign 18 = .ok (.aload_n 0, 1) := by decide +kernel
theorem dX1_addSign_19 : decode cX1_addSign 19 = .ok (.dup, 1) := by decide +kernel
theorem dX1_addSign_20 : decode cX1_addSign 20 = .ok (.getfield 88, 3) := by decide +kernel
theorem dX1_addSign_23 : decode cX1_addSign 23 = .ok (.iconst 1, 1) := by decide +kernel
theorem dX1_addSign_24 : decode cX1_addSign 24 = .ok (.iadd, 1) := by decide +kernel
theorem dX1_addSign_25 : decode cX1_addSign 25 = .ok (.putfield 88, 3) := by decide +kernel
theorem dX1_addSign_28 : decode cX1_addSign 28 = .ok (.iload_n 3, 1) := by decide +kernel
theorem dX1_addSign_29 : decode cX1_addSign 29 = .ok (.ireturn, 1) := by decide +kernel
theorem BX1_addSign_0 {d bc bs : Nat} {h : aH} {n : Nat} {Q : aQ} {ar0 : Nat} {x1 x2 v3 : Int} {l3 : Option aV} {f1 : List aV} {t5 : Option Nat} (h2 : h ar0 = cO 1 f1) (g4 : f1[3]? = some (vI v3)) (g6 : f1[1]? = some (vR t5)) (k : Rn d 0 0 mX2_sign 0 [some (vI x1), some (vI x2)] [] h n (fun v h1 n1 => Rn (d + 1) bc bs mX1_addSign 15 [some (vR (some ar0)), some (vI x1), some (vI x2), some (vI v3)] (v.toList ++ [vI v3, vR t5]) h1 n1 Q)) : Rn (d + 1) (bc) (bs) mX1_addSign 0 [some (vR (some ar0)), some (vI x1), some (vI x2), l3] [] h n Q := by
  refine Rn_aload_n dX1_addSign_0 rfl rfl rfl ?_
  refine Rn_getfield (ci := 1) (k := 3) dX1_addSign_1 rfl in_1 (Nat.le_of_ble_eq_true rfl) wd_358 rfl h2 g4 ?_
  refine Rn_istore_n dX1_addSign_4 rfl (Nat.le_of_ble_eq_true rfl) rfl rfl ?_
  refine Rn_aload_n dX1_addSign_5 rfl rfl rfl ?_
  refine Rn_getfield (ci := 1) (k := 1) dX1_addSign_6 rfl in_1 (Nat.le_of_ble_eq_true rfl) wd_356 rfl h2 g6 ?_
  refine Rn_iload_n dX1_addSign_9 rfl rfl ?_
  refine Rn_iload_n dX1_addSign_10 rfl rfl ?_
  refine Rn_iload_n dX1_addSign_11 rfl rfl ?_
  exact Rn_callS (avs := [vI x1, vI x2]) (st := [vI v3, vR t5]) (bc1 := 0) (bs1 := 0) (bc2 := bc) (bs2 := bs) fx_X2_sign dX1_addSign_12 (Or.inl wd_662) wd_663 rfl (Nat.le_of_ble_eq_true rfl) (Nat.le_of_ble_eq_true rfl) (by omega) (by omega) (ls1 := [some (vI x1), some (vI x2)]) rfl k
theorem BX1_addSign_15 {d bc bs : Nat} {h : aH} {n : Nat} {Q : aQ} {r0 q0 : Option Nat} {x1 x2 x3 s1 s2 : Int} (k : Rn d 0 0 mX12_setCell 0 [some (vR q0), some (vI s1), some (vI s2)] [] h n (fun v h1 n1 => Rn (d + 1) bc bs mX1_addSign 18 [some (vR r0), some (vI x1), some (vI x2), some (vI x3)] (v.toList ++ []) h1 n1 Q)) : Rn (d + 1) (bc) (bs) mX1_addSign 15 [some (vR r0), some (vI x1), some (vI x2), some (vI x3)] [vI s2, vI s1, vR q0] h n Q := by
  exact Rn_callS (avs := [vR q0, vI s1, vI s2]) (st := []) (bc1 := 0) (bs1 := 0) (bc2 := bc) (bs2 := bs) fx_X12_setCell dX1_addSign_15 (Or.inr ⟨"BottledPost", List.mem_of_getElem? (i := 15) rfl⟩) wd_164 rfl (Nat.le_of_ble_eq_true rfl) (Nat.le_of_ble_eq_true rfl) (by omega) (by omega) (ls1 := [some (vR q0), some (vI s1), some (vI s2)]) rfl k
theorem BX1_addSign_18 {d bc bs : Nat} {h : aH} {n : Nat} {Q : aQ} {ar0 : Nat} {x1 x2 x3 v3 : Int} {f1 : List aV} (h2 : h ar0 = cO 1 f1) (g4 : f1[3]? = some (vI v3)) (b5 : -2147483648 ≤ v3 + 1 ∧ v3 + 1 < 2147483648) (m6 : 3 < f1.length) (k : Rn d bc bs mX1_addSign 28 [some (vR (some ar0)), some (vI x1), some (vI x2), some (vI x3)] [] (up h ar0 (cO 1 (f1.set 3 (vI (v3 + 1))))) n Q) : Rn d (bc) (bs) mX1_addSign 18 [some (vR (some ar0)), some (vI x1), some (vI x2), some (vI x3)] [] h n Q := by
  refine Rn_aload_n dX1_addSign_18 rfl rfl rfl ?_
  refine Rn_dup dX1_addSign_19 rfl ?_
  refine Rn_getfield (ci := 1) (k := 3) dX1_addSign_20 rfl in_1 (Nat.le_of_ble_eq_true rfl) wd_358 rfl h2 g4 ?_
  refine Rn_iconst dX1_addSign_23 rfl ?_
  refine Rn_iadd dX1_addSign_24 ?_
  rw [w32_id b5.1 b5.2]
  refine Rn_putfield (ci := 1) (k := 3) dX1_addSign_25 rfl in_1 tyX1_ok nmX1 (Nat.le_of_ble_eq_true rfl) wd_358 rfl (Or.inl rfl) trivial m6 h2 ?_
  exact k
theorem BX1_addSign_28 {d bc bs : Nat} {h : aH} {n : Nat} {Q : aQ} {r0 : Option Nat} {x1 x2 x3 : Int} (k : Q (some (vI x3)) h n) : Rn d (bc) (bs) mX1_addSign 28 [some (vR r0), some (vI x1), some (vI x2), some (vI x3)] [] h n Q := by
  refine Rn_iload_n dX1_addSign_28 rfl rfl ?_
  exact Rn_ireturn rfl dX1_addSign_29 k
theorem dX1_leadHere_0 : decode cX1_leadHere 0 = .ok (.aload_n 0, 1) := by decide +kernel
theorem dX1_leadHere_1 : decode cX1_leadHere 1 = .ok (.getfield 17, 3) := by decide +kernel
theorem dX1_leadHere_4 : decode cX1_leadHere 4 = .ok (.iload_n 1, 1) := by decide +kernel
theorem dX1_leadHere_5 : decode cX1_leadHere 5 = .ok (.iload_n 2, 1) := by decide +kernel
theorem dX1_leadHere_6 : decode cX1_leadHere 6 = .ok (.aload_n 0, 1) := by decide +kernel
theorem dX1_leadHere_7 : decode cX1_leadHere 7 = .ok (.getfield 88, 3) := by decide +kernel
theorem dX1_leadHere_10 : decode cX1_leadHere 10 = .ok (.iconst 1, 1) := by decide +kernel
theorem dX1_leadHere_11 : decode cX1_leadHere 11 = .ok (.isub, 1) := by decide +kernel
theorem dX1_leadHere_12 : decode cX1_leadHere 12 = .ok (.iload_n 1, 1) := by decide +kernel
theorem dX1_leadHere_13 : decode cX1_leadHere 13 = .ok (.isub, 1) := by decide +kernel
theorem dX1_leadHere_14 : decode cX1_leadHere 14 = .ok (.invokestatic 122, 3) := by decide +kernel
theorem dX1_leadHere_17 : decode cX1_leadHere 17 = .ok (.invokestatic 107, 3) := by decide +kernel
theorem dX1_leadHere_20 : decode cX1_leadHere 20 = .ok (.return_, 1) := by decide +kernel
theorem BX1_leadHere_0 {d bc bs : Nat} {h : aH} {n : Nat} {Q : aQ} {ar0 : Nat} {x1 x2 v5 : Int} {f1 : List aV} {t3 : Option Nat} (h2 : h ar0 = cO 1 f1) (g4 : f1[1]? = some (vR t3)) (g6 : f1[3]? = some (vI v5)) (b7 : -2147483648 ≤ v5 - 1 ∧ v5 - 1 < 2147483648) (b8 : -2147483648 ≤ (v5 - 1) - x1 ∧ (v5 - 1) - x1 < 2147483648) (k : Rn d 0 0 mX2_sign 0 [some (vI x2), some (vI ((v5 - 1) - x1))] [] h n (fun v h1 n1 => Rn (d + 1) bc bs mX1_leadHere 17 [some (vR (some ar0)), some (vI x1), some (vI x2)] (v.toList ++ [vI x1, vR t3]) h1 n1 Q)) : Rn (d + 1) (bc) (bs) mX1_leadHere 0 [some (vR (some ar0)), some (vI x1), some (vI x2)] [] h n Q := by
  refine Rn_aload_n dX1_leadHere_0 rfl rfl rfl ?_
  refine Rn_getfield (ci := 1) (k := 1) dX1_leadHere_1 rfl in_1 (Nat.le_of_ble_eq_true rfl) wd_356 rfl h2 g4 ?_
  refine Rn_iload_n dX1_leadHere_4 rfl rfl ?_
  refine Rn_iload_n dX1_leadHere_5 rfl rfl ?_
  refine Rn_aload_n dX1_leadHere_6 rfl rfl rfl ?_
  refine Rn_getfield (ci := 1) (k := 3) dX1_leadHere_7 rfl in_1 (Nat.le_of_ble_eq_true rfl) wd_358 rfl h2 g6 ?_
  refine Rn_iconst dX1_leadHere_10 rfl ?_
  refine Rn_isub dX1_leadHere_11 ?_
  rw [w32_id b7.1 b7.2]
  refine Rn_iload_n dX1_leadHere_12 rfl rfl ?_
  refine Rn_isub dX1_leadHere_13 ?_
  rw [w32_id b8.1 b8.2]
  exact Rn_callS (avs := [vI x2, vI ((v5 - 1) - x1)]) (st := [vI x1, vR t3]) (bc1 := 0) (bs1 := 0) (bc2 := bc) (bs2 := bs) fx_X2_sign dX1_leadHere_14 (Or.inl wd_662) wd_663 rfl (Nat.le_of_ble_eq_true rfl) (Nat.le_of_ble_eq_true rfl) (by omega) (by omega) (ls1 := [some (vI x2), some (vI ((v5 - 1) - x1))]) rfl k
theorem BX1_leadHere_17 {d bc bs : Nat} {h : aH} {n : Nat} {Q : aQ} {r0 q0 : Option Nat} {x1 x2 s1 s2 : Int} (k : Rn d 0 0 mX12_setCell 0 [some (vR q0), some (vI s1), some (vI s2)] [] h n (fun v h1 n1 => Rn (d + 1) bc bs mX1_leadHere 20 [some (vR r0), some (vI x1), some (vI x2)] (v.toList ++ []) h1 n1 Q)) : Rn (d + 1) (bc) (bs) mX1_leadHere 17 [some (vR r0), some (vI x1), some (vI x2)] [vI s2, vI s1, vR q0] h n Q := by
  exact Rn_callS (avs := [vR q0, vI s1, vI s2]) (st := []) (bc1 := 0) (bs1 := 0) (bc2 := bc) (bs2 := bs) fx_X12_setCell dX1_leadHere_17 (Or.inr ⟨"BottledPost", List.mem_of_getElem? (i := 15) rfl⟩) wd_164 rfl (Nat.le_of_ble_eq_true rfl) (Nat.le_of_ble_eq_true rfl) (by omega) (by omega) (ls1 := [some (vR q0), some (vI s1), some (vI s2)]) rfl k
theorem BX1_leadHere_20 {d bc bs : Nat} {h : aH} {n : Nat} {Q : aQ} {r0 : Option Nat} {x1 x2 : Int} (k : Q none h n) : Rn d (bc) (bs) mX1_leadHere 20 [some (vR r0), some (vI x1), some (vI x2)] [] h n Q := by
  exact Rn_return rfl dX1_leadHere_20 k
theorem dX1_readSum_0 : decode cX1_readSum 0 = .ok (.aload_n 0, 1) := by decide +kernel
theorem dX1_readSum_1 : decode cX1_readSum 1 = .ok (.aload_n 1, 1) := by decide +kernel
theorem dX1_readSum_2 : decode cX1_readSum 2 = .ok (.invokevirtual 127, 3) := by decide +kernel
theorem dX1_readSum_5 : decode cX1_readSum 5 = .ok (.iconst 0, 1) := by decide +kernel
theorem dX1_readSum_6 : decode cX1_readSum 6 = .ok (.istore_n 2, 1) := by decide +kernel
theorem dX1_readSum_7 : decode cX1_readSum 7 = .ok (.iload_n 2, 1) := by decide +kernel
theorem dX1_readSum_8 : decode cX1_readSum 8 = .ok (.sipush 300, 3) := by decide +kernel
theorem dX1_readSum_11 : decode cX1_readSum 11 = .ok (.if_icmp .ge 50, 3) := by decide +kernel
theorem dX1_readSum_14 : decode cX1_readSum 14 = .ok (.aload_n 0, 1) := by decide +kernel
theorem dX1_readSum_15 : decode cX1_readSum 15 = .ok (.aload_n 1, 1) := by decide +kernel
theorem dX1_readSum_16 : decode cX1_readSum 16 = .ok (.bipush 9, 2) := by decide +kernel
theorem dX1_readSum_18 : decode cX1_readSum 18 = .ok (.invokevirtual 73, 3) := by decide +kernel
theorem dX1_readSum_21 : decode cX1_readSum 21 = .ok (.ifCond .ne 13, 3) := by decide +kernel
theorem dX1_readSum_24 : decode cX1_readSum 24 = .ok (.aload_n 0, 1) := by decide +kernel
theorem dX1_readSum_25 : decode cX1_readSum 25 = .ok (.aload_n 1, 1) := by decide +kernel
theorem dX1_readSum_26 : decode cX1_readSum 26 = .ok (.bipush 10, 2) := by decide +kernel
theorem dX1_readSum_28 : decode cX1_readSum 28 = .ok (.invokevirtual 73, 3) := by decide +kernel
theorem dX1_readSum_31 : decode cX1_readSum 31 = .ok (.ifCond .eq 30, 3) := by decide +kernel
theorem dX1_readSum_34 : decode cX1_readSum 34 = .ok (.aload_n 1, 1) := by decide +kernel
theorem dX1_readSum_35 : decode cX1_readSum 35 = .ok (.getfield 44, 3) := by decide +kernel
theorem dX1_readSum_38 : decode cX1_readSum 38 = .ok (.istore_n 3, 1) := by decide +kernel
theorem dX1_readSum_39 : decode cX1_readSum 39 = .ok (.aload_n 1, 1) := by decide +kernel
theorem dX1_readSum_40 : decode cX1_readSum 40 = .ok (.invokevirtual 77, 3) := by decide +kernel
theorem dX1_readSum_43 : decode cX1_readSum 43 = .ok (.aload_n 0, 1) := by decide +kernel
theorem dX1_readSum_44 : decode cX1_readSum 44 = .ok (.aload_n 1, 1) := by decide +kernel
theorem dX1_readSum_45 : decode cX1_readSum 45 = .ok (.invokevirtual 127, 3) := by decide +kernel
theorem dX1_readSum_48 : decode cX1_readSum 48 = .ok (.aload_n 0, 1) := by decide +kernel
theorem dX1_readSum_49 : decode cX1_readSum 49 = .ok (.iload_n 3, 1) := by decide +kernel
theorem dX1_readSum_50 : decode cX1_readSum 50 = .ok (.iconst 0, 1) := by decide +kernel
theorem dX1_readSum_51 : decode cX1_readSum 51 = .ok (.invokevirtual 130, 3) := by decide +kernel
theorem dX1_readSum_54 : decode cX1_readSum 54 = .ok (.pop, 1) := by decide +kernel
theorem dX1_readSum_55 : decode cX1_readSum 55 = .ok (.iinc 2 1, 3) := by decide +kernel
theorem dX1_readSum_58 : decode cX1_readSum 58 = .ok (.goto (-51), 3) := by decide +kernel
theorem dX1_readSum_61 : decode cX1_readSum 61 = .ok (.return_, 1) := by decide +kernel
theorem BX1_readSum_0 {d bc bs : Nat} {h : aH} {n : Nat} {Q : aQ} {ar0 : Nat} {r1 : Option Nat} {l2 l3 : Option aV} {f1 : List aV} (h2 : h ar0 = cO 1 f1) (k : Rn d 0 0 mX1_readProduct 0 [some (vR (some ar0)), some (vR r1), none, none] [] h n (fun v h1 n1 => Rn (d + 1) bc bs mX1_readSum 5 [some (vR (some ar0)), some (vR r1), l2, l3] (v.toList ++ []) h1 n1 Q)) : Rn (d + 1) (bc) (bs) mX1_readSum 0 [some (vR (some ar0)), some (vR r1), l2, l3] [] h n Q := by
  refine Rn_aload_n dX1_readSum_0 rfl rfl rfl ?_
  refine Rn_aload_n dX1_readSum_1 rfl rfl rfl ?_
  exact Rn_callV (ci := 1) (avs := [vR r1]) (st := []) (bc1 := 0) (bs1 := 0) (bc2 := bc) (bs2 := bs) fx_X1_readProduct dX1_readSum_2 wd_646 wd_648 wd_9 rfl h2 rfl (Nat.le_of_ble_eq_true rfl) (Nat.le_of_ble_eq_true rfl) (by omega) (by omega) (ls1 := [some (vR (some ar0)), some (vR r1), none, none]) rfl k
theorem BX1_readSum_5 {d bc bs : Nat} {h : aH} {n : Nat} {Q : aQ} {r0 r1 : Option Nat} {l2 l3 : Option aV} (k : Rn d bc bs mX1_readSum 7 [some (vR r0), some (vR r1), some (vI 0), l3] [] h n Q) : Rn d (bc) (bs) mX1_readSum 5 [some (vR r0), some (vR r1), l2, l3] [] h n Q := by
  refine Rn_iconst dX1_readSum_5 rfl ?_
  refine Rn_istore_n dX1_readSum_6 rfl (Nat.le_of_ble_eq_true rfl) rfl rfl ?_
  exact k
theorem BX1_readSum_7 {d bc bs : Nat} {h : aH} {n : Nat} {Q : aQ} {r0 r1 : Option Nat} {x2 : Int} {l3 : Option aV} (kt : 300 ≤ x2 → Rn d bc bs mX1_readSum 61 [some (vR r0), some (vR r1), some (vI x2), l3] [] h n Q) (kf : x2 < 300 → Rn d bc bs mX1_readSum 14 [some (vR r0), some (vR r1), some (vI x2), l3] [] h n Q) : Rn d (bc) (bs) mX1_readSum 7 [some (vR r0), some (vR r1), some (vI x2), l3] [] h n Q := by
  refine Rn_iload_n dX1_readSum_7 rfl rfl ?_
  refine Rn_sipush dX1_readSum_8 rfl ?_
  refine Rn_icmpge (tgt := 61) dX1_readSum_11 rfl ?_ ?_
  · exact kt
  · exact kf
theorem BX1_readSum_14 {d bc bs : Nat} {h : aH} {n : Nat} {Q : aQ} {ar0 : Nat} {r1 : Option Nat} {x2 : Int} {l3 : Option aV} {f1 : List aV} (h2 : h ar0 = cO 1 f1) (k : Rn d 0 0 mX1_sees 0 [some (vR (some ar0)), some (vR r1), some (vI 9)] [] h n (fun v h1 n1 => Rn (d + 1) bc bs mX1_readSum 21 [some (vR (some ar0)), some (vR r1), some (vI x2), l3] (v.toList ++ []) h1 n1 Q)) : Rn (d + 1) (bc) (bs) mX1_readSum 14 [some (vR (some ar0)), some (vR r1), some (vI x2), l3] [] h n Q := by
  refine Rn_aload_n dX1_readSum_14 rfl rfl rfl ?_
  refine Rn_aload_n dX1_readSum_15 rfl rfl rfl ?_
  refine Rn_bipush dX1_readSum_16 rfl ?_
  exact Rn_callV (ci := 1) (avs := [vR r1, vI 9]) (st := []) (bc1 := 0) (bs1 := 0) (bc2 := bc) (bs2 := bs) fx_X1_sees dX1_readSum_18 wd_680 wd_682 wd_16 rfl h2 rfl (Nat.le_of_ble_eq_true rfl) (Nat.le_of_ble_eq_true rfl) (by omega) (by omega) (ls1 := [some (vR (some ar0)), some (vR r1), some (vI 9)]) rfl k
theorem BX1_readSum_21 {d bc bs : Nat} {h : aH} {n : Nat} {Q : aQ} {r0 r1 : Option Nat} {x2 s0 : Int} {l3 : Option aV} (kt : s0 ≠ 0 → Rn d bc bs mX1_readSum 34 [some (vR r0), some (vR r1), some (vI x2), l3] [] h n Q) (kf : s0 = 0 → Rn d bc bs mX1_readSum 24 [some (vR r0), some (vR r1), some (vI x2), l3] [] h n Q) : Rn d (bc) (bs) mX1_readSum 21 [some (vR r0), some (vR r1), some (vI x2), l3] [vI s0] h n Q := by
  refine Rn_ifne (tgt := 34) dX1_readSum_21 rfl ?_ ?_
  · exact kt
  · exact kf
theorem BX1_readSum_24 {d bc bs : Nat} {h : aH} {n : Nat} {Q : aQ} {ar0 : Nat} {r1 : Option Nat} {x2 : Int} {l3 : Option aV} {f1 : List aV} (h2 : h ar0 = cO 1 f1) (k : Rn d 0 0 mX1_sees 0 [some (vR (some ar0)), some (vR r1), some (vI 10)] [] h n (fun v h1 n1 => Rn (d + 1) bc bs mX1_readSum 31 [some (vR (some ar0)), some (vR r1), some (vI x2), l3] (v.toList ++ []) h1 n1 Q)) : Rn (d + 1) (bc) (bs) mX1_readSum 24 [some (vR (some ar0)), some (vR r1), some (vI x2), l3] [] h n Q := by
  refine Rn_aload_n dX1_readSum_24 rfl rfl rfl ?_
  refine Rn_aload_n dX1_readSum_25 rfl rfl rfl ?_
  refine Rn_bipush dX1_readSum_26 rfl ?_
  exact Rn_callV (ci := 1) (avs := [vR r1, vI 10]) (st := []) (bc1 := 0) (bs1 := 0) (bc2 := bc) (bs2 := bs) fx_X1_sees dX1_readSum_28 wd_680 wd_682 wd_16 rfl h2 rfl (Nat.le_of_ble_eq_true rfl) (Nat.le_of_ble_eq_true rfl) (by omega) (by omega) (ls1 := [some (vR (some ar0)), some (vR r1), some (vI 10)]) rfl k
theorem BX1_readSum_31 {d bc bs : Nat} {h : aH} {n : Nat} {Q : aQ} {r0 r1 : Option Nat} {x2 s0 : Int} {l3 : Option aV} (kt : s0 = 0 → Rn d bc bs mX1_readSum 61 [some (vR r0), some (vR r1), some (vI x2), l3] [] h n Q) (kf : s0 ≠ 0 → Rn d bc bs mX1_readSum 34 [some (vR r0), some (vR r1), some (vI x2), l3] [] h n Q) : Rn d (bc) (bs) mX1_readSum 31 [some (vR r0), some (vR r1), some (vI x2), l3] [vI s0] h n Q := by
  refine Rn_ifeq (tgt := 61) dX1_readSum_31 rfl ?_ ?_
  · exact kt
  · exact kf
theorem BX1_readSum_34 {d bc bs : Nat} {h : aH} {n : Nat} {Q : aQ} {r0 : Option Nat} {ar1 : Nat} {x2 v3 : Int} {l3 : Option aV} {f1 : List aV} (h2 : h ar1 = cO 9 f1) (g4 : f1[2]? = some (vI v3)) (k : Rn d 0 0 mX9_comeToNext 0 [some (vR (some ar1)), none] [] h n (fun v h1 n1 => Rn (d + 1) bc bs mX1_readSum 43 [some (vR r0), some (vR (some ar1)), some (vI x2), some (vI v3)] (v.toList ++ []) h1 n1 Q)) : Rn (d + 1) (bc) (bs) mX1_readSum 34 [some (vR r0), some (vR (some ar1)), some (vI x2), l3] [] h n Q := by
  refine Rn_aload_n dX1_readSum_34 rfl rfl rfl ?_
  refine Rn_getfield (ci := 9) (k := 2) dX1_readSum_35 rfl in_9 (Nat.le_of_ble_eq_true rfl) wd_330 rfl h2 g4 ?_
  refine Rn_istore_n dX1_readSum_38 rfl (Nat.le_of_ble_eq_true rfl) rfl rfl ?_
  refine Rn_aload_n dX1_readSum_39 rfl rfl rfl ?_
  exact Rn_callV (ci := 9) (avs := []) (st := []) (bc1 := 0) (bs1 := 0) (bc2 := bc) (bs2 := bs) fx_X9_comeToNext dX1_readSum_40 wd_641 wd_544 wd_545 rfl h2 rfl (Nat.le_of_ble_eq_true rfl) (Nat.le_of_ble_eq_true rfl) (by omega) (by omega) (ls1 := [some (vR (some ar1)), none]) rfl k
theorem BX1_readSum_43 {d bc bs : Nat} {h : aH} {n : Nat} {Q : aQ} {ar0 : Nat} {r1 : Option Nat} {x2 x3 : Int} {f1 : List aV} (h2 : h ar0 = cO 1 f1) (k : Rn d 0 0 mX1_readProduct 0 [some (vR (some ar0)), some (vR r1), none, none] [] h n (fun v h1 n1 => Rn (d + 1) bc bs mX1_readSum 48 [some (vR (some ar0)), some (vR r1), some (vI x2), some (vI x3)] (v.toList ++ []) h1 n1 Q)) : Rn (d + 1) (bc) (bs) mX1_readSum 43 [some (vR (some ar0)), some (vR r1), some (vI x2), some (vI x3)] [] h n Q := by
  refine Rn_aload_n dX1_readSum_43 rfl rfl rfl ?_
  refine Rn_aload_n dX1_readSum_44 rfl rfl rfl ?_
  exact Rn_callV (ci := 1) (avs := [vR r1]) (st := []) (bc1 := 0) (bs1 := 0) (bc2 := bc) (bs2 := bs) fx_X1_readProduct dX1_readSum_45 wd_646 wd_648 wd_9 rfl h2 rfl (Nat.le_of_ble_eq_true rfl) (Nat.le_of_ble_eq_true rfl) (by omega) (by omega) (ls1 := [some (vR (some ar0)), some (vR r1), none, none]) rfl k
theorem BX1_readSum_48 {d bc bs : Nat} {h : aH} {n : Nat} {Q : aQ} {ar0 : Nat} {r1 : Option Nat} {x2 x3 : Int} {f1 : List aV} (h2 : h ar0 = cO 1 f1) (k : Rn d 0 0 mX1_addSign 0 [some (vR (some ar0)), some (vI x3), some (vI 0), none] [] h n (fun v h1 n1 => Rn (d + 1) bc bs mX1_readSum 54 [some (vR (some ar0)), some (vR r1), some (vI x2), some (vI x3)] (v.toList ++ []) h1 n1 Q)) : Rn (d + 1) (bc) (bs) mX1_readSum 48 [some (vR (some ar0)), some (vR r1), some (vI x2), some (vI x3)] [] h n Q := by
  refine Rn_aload_n dX1_readSum_48 rfl rfl rfl ?_
  refine Rn_iload_n dX1_readSum_49 rfl rfl ?_
  refine Rn_iconst dX1_readSum_50 rfl ?_
  exact Rn_callV (ci := 1) (avs := [vI x3, vI 0]) (st := []) (bc1 := 0) (bs1 := 0) (bc2 := bc) (bs2 := bs) fx_X1_addSign dX1_readSum_51 wd_658 wd_660 wd_12 rfl h2 rfl (Nat.le_of_ble_eq_true rfl) (Nat.le_of_ble_eq_true rfl) (by omega) (by omega) (ls1 := [some (vR (some ar0)), some (vI x3), some (vI 0), none]) rfl k
theorem BX1_readSum_54 {d bc bs : Nat} {h : aH} {n : Nat} {Q : aQ} {r0 r1 : Option Nat} {x2 x3 s0 : Int} (b1 : -2147483648 ≤ x2 + 1 ∧ x2 + 1 < 2147483648) (k : Rn d bc bs mX1_readSum 7 [some (vR r0), some (vR r1), some (vI (x2 + 1)), some (vI x3)] [] h n Q) : Rn d (bc) (bs) mX1_readSum 54 [some (vR r0), some (vR r1), some (vI x2), some (vI x3)] [vI s0] h n Q := by
  refine Rn_pop dX1_readSum_54 rfl ?_
  refine Rn_iinc dX1_readSum_55 rfl (Nat.le_of_ble_eq_true rfl) rfl rfl rfl ?_
  rw [w32_id b1.1 b1.2]
  refine Rn_goto (tgt := 7) dX1_readSum_58 rfl ?_
  exact k
theorem BX1_readSum_61 {d bc bs : Nat} {h : aH} {n : Nat} {Q : aQ} {r0 r1 : Option Nat} {x2 : Int} {l3 : Option aV} (k : Q none h n) : Rn d (bc) (bs) mX1_readSum 61 [some (vR r0), some (vR r1), some (vI x2), l3] [] h n Q := by
  exact Rn_return rfl dX1_readSum_61 k
theorem dX1_readProduct_0 : decode cX1_readProduct 0 = .ok (.aload_n 0, 1) := by decide +kernel
theorem dX1_readProduct_1 : decode cX1_readProduct 1 = .ok (.aload_n 1, 1) := by decide +kernel
theorem dX1_readProduct_2 : decode cX1_readProduct 2 = .ok (.invokevirtual 133, 3) := by decide +kernel
theorem dX1_readProduct_5 : decode cX1_readProduct 5 = .ok (.iconst 0, 1) := by decide +kernel
theorem dX1_readProduct_6 : decode cX1_readProduct 6 = .ok (.istore_n 2, 1) := by decide +kernel
theorem dX1_readProduct_7 : decode cX1_readProduct 7 = .ok (.iload_n 2, 1) := by decide +kernel
theorem dX1_readProduct_8 : decode cX1_readProduct 8 = .ok (.sipush 300, 3) := by decide +kernel
theorem dX1_readProduct_11 : decode cX1_readProduct 11 = .ok (.if_icmp .ge 50, 3) := by decide +kernel
theorem dX1_readProduct_14 : decode cX1_readProduct 14 = .ok (.aload_n 0, 1) := by decide +kernel
theorem dX1_readProduct_15 : decode cX1_readProduct 15 = .ok (.aload_n 1, 1) := by decide +kernel
theorem dX1_readProduct_16 : decode cX1_readProduct 16 = .ok (.bipush 11, 2) := by decide +kernel
theorem dX1_readProduct_18 : decode cX1_readProduct 18 = .ok (.invokevirtual 73, 3) := by decide +kernel
theorem dX1_readProduct_21 : decode cX1_readProduct 21 = .ok (.ifCond .ne 13, 3) := by decide +kernel
theorem dX1_readProduct_24 : decode cX1_readProduct 24 = .ok (.aload_n 0, 1) := by decide +kernel
theorem dX1_readProduct_25 : decode cX1_readProduct 25 = .ok (.aload_n 1, 1) := by decide +kernel
theorem dX1_readProduct_26 : decode cX1_readProduct 26 = .ok (.bipush 12, 2) := by decide +kernel
theorem dX1_readProduct_28 : decode cX1_readProduct 28 = .ok (.invokevirtual 73, 3) := by decide +kernel
theorem dX1_readProduct_31 : decode cX1_readProduct 31 = .ok (.ifCond .eq 30, 3) := by decide +kernel
theorem dX1_readProduct_34 : decode cX1_readProduct 34 = .ok (.aload_n 1, 1) := by decide +kernel
theorem dX1_readProduct_35 : decode cX1_readProduct 35 = .ok (.getfield 44, 3) := by decide +kernel
theorem dX1_readProduct_38 : decode cX1_readProduct 38 = .ok (.istore_n 3, 1) := by decide +kernel
theorem dX1_readProduct_39 : decode cX1_readProduct 39 = .ok (.aload_n 1, 1) := by decide +kernel
theorem dX1_readProduct_40 : decode cX1_readProduct 40 = .ok (.invokevirtual 77, 3) := by decide +kernel
theorem dX1_readProduct_43 : decode cX1_readProduct 43 = .ok (.aload_n 0, 1) := by decide +kernel
theorem dX1_readProduct_44 : decode cX1_readProduct 44 = .ok (.aload_n 1, 1) := by decide +kernel
theorem dX1_readProduct_45 : decode cX1_readProduct 45 = .ok (.invokevirtual 133, 3) := by decide +kernel
theorem dX1_readProduct_48 : decode cX1_readProduct 48 = .ok (.aload_n 0, 1) := by decide +kernel
theorem dX1_readProduct_49 : decode cX1_readProduct 49 = .ok (.iload_n 3, 1) := by decide +kernel
theorem dX1_readProduct_50 : decode cX1_readProduct 50 = .ok (.iconst 0, 1) := by decide +kernel
theorem dX1_readProduct_51 : decode cX1_readProduct 51 = .ok (.invokevirtual 130, 3) := by decide +kernel
theorem dX1_readProduct_54 : decode cX1_readProduct 54 = .ok (.pop, 1) := by decide +kernel
theorem dX1_readProduct_55 : decode cX1_readProduct 55 = .ok (.iinc 2 1, 3) := by decide +kernel
theorem dX1_readProduct_58 : decode cX1_readProduct 58 = .ok (.goto (-51), 3) := by decide +kernel
theorem dX1_readProduct_61 : decode cX1_readProduct 61 = .ok (.return_, 1) := by decide +kernel
theorem BX1_readProduct_0 {d bc bs : Nat} {h : aH} {n : Nat} {Q : aQ} {ar0 : Nat} {r1 : Option Nat} {l2 l3 : Option aV} {f1 : List aV} (h2 : h ar0 = cO 1 f1) (k : Rn d 0 0 mX1_readOne 0 [some (vR (some ar0)), some (vR r1)] [] h n (fun v h1 n1 => Rn (d + 1) bc bs mX1_readProduct 5 [some (vR (some ar0)), some (vR r1), l2, l3] (v.toList ++ []) h1 n1 Q)) : Rn (d + 1) (bc) (bs) mX1_readProduct 0 [some (vR (some ar0)), some (vR r1), l2, l3] [] h n Q := by
  refine Rn_aload_n dX1_readProduct_0 rfl rfl rfl ?_
  refine Rn_aload_n dX1_readProduct_1 rfl rfl rfl ?_
  exact Rn_callV (ci := 1) (avs := [vR r1]) (st := []) (bc1 := 0) (bs1 := 0) (bc2 := bc) (bs2 := bs) fx_X1_readOne dX1_readProduct_2 wd_650 wd_652 wd_10 rfl h2 rfl (Nat.le_of_ble_eq_true rfl) (Nat.le_of_ble_eq_true rfl) (by omega) (by omega) (ls1 := [some (vR (some ar0)), some (vR r1)]) rfl k
theorem BX1_readProduct_5 {d bc bs : Nat} {h : aH} {n : Nat} {Q : aQ} {r0 r1 : Option Nat} {l2 l3 : Option aV} (k : Rn d bc bs mX1_readProduct 7 [some (vR r0), some (vR r1), some (vI 0), l3] [] h n Q) : Rn d (bc) (bs) mX1_readProduct 5 [some (vR r0), some (vR r1), l2, l3] [] h n Q := by
  refine Rn_iconst dX1_readProduct_5 rfl ?_
  refine Rn_istore_n dX1_readProduct_6 rfl (Nat.le_of_ble_eq_true rfl) rfl rfl ?_
  exact k
theorem BX1_readProduct_7 {d bc bs : Nat} {h : aH} {n : Nat} {Q : aQ} {r0 r1 : Option Nat} {x2 : Int} {l3 : Option aV} (kt : 300 ≤ x2 → Rn d bc bs mX1_readProduct 61 [some (vR r0), some (vR r1), some (vI x2), l3] [] h n Q) (kf : x2 < 300 → Rn d bc bs mX1_readProduct 14 [some (vR r0), some (vR r1), some (vI x2), l3] [] h n Q) : Rn d (bc) (bs) mX1_readProduct 7 [some (vR r0), some (vR r1), some (vI x2), l3] [] h n Q := by
  refine Rn_iload_n dX1_readProduct_7 rfl rfl ?_
  refine Rn_sipush dX1_readProduct_8 rfl ?_
  refine Rn_icmpge (tgt := 61) dX1_readProduct_11 rfl ?_ ?_
  · exact kt
  · exact kf
theorem BX1_readProduct_14 {d bc bs : Nat} {h : aH} {n : Nat} {Q : aQ} {ar0 : Nat} {r1 : Option Nat} {x2 : Int} {l3 : Option aV} {f1 : List aV} (h2 : h ar0 = cO 1 f1) (k : Rn d 0 0 mX1_sees 0 [some (vR (some ar0)), some (vR r1), some (vI 11)] [] h n (fun v h1 n1 => Rn (d + 1) bc bs mX1_readProduct 21 [some (vR (some ar0)), some (vR r1), some (vI x2), l3] (v.toList ++ []) h1 n1 Q)) : Rn (d + 1) (bc) (bs) mX1_readProduct 14 [some (vR (some ar0)), some (vR r1), some (vI x2), l3] [] h n Q := by
  refine Rn_aload_n dX1_readProduct_14 rfl rfl rfl ?_
  refine Rn_aload_n dX1_readProduct_15 rfl rfl rfl ?_
  refine Rn_bipush dX1_readProduct_16 rfl ?_
  exact Rn_callV (ci := 1) (avs := [vR r1, vI 11]) (st := []) (bc1 := 0) (bs1 := 0) (bc2 := bc) (bs2 := bs) fx_X1_sees dX1_readProduct_18 wd_680 wd_682 wd_16 rfl h2 rfl (Nat.le_of_ble_eq_true rfl) (Nat.le_of_ble_eq_true rfl) (by omega) (by omega) (ls1 := [some (vR (some ar0)), some (vR r1), some (vI 11)]) rfl k
theorem BX1_readProduct_21 {d bc bs : Nat} {h : aH} {n : Nat} {Q : aQ} {r0 r1 : Option Nat} {x2 s0 : Int} {l3 : Option aV} (kt : s0 ≠ 0 → Rn d bc bs mX1_readProduct 34 [some (vR r0), some (vR r1), some (vI x2), l3] [] h n Q) (kf : s0 = 0 → Rn d bc bs mX1_readProduct 24 [some (vR r0), some (vR r1), some (vI x2), l3] [] h n Q) : Rn d (bc) (bs) mX1_readProduct 21 [some (vR r0), some (vR r1), some (vI x2), l3] [vI s0] h n Q := by
  refine Rn_ifne (tgt := 34) dX1_readProduct_21 rfl ?_ ?_
  · exact kt
  · exact kf
theorem BX1_readProduct_24 {d bc bs : Nat} {h : aH} {n : Nat} {Q : aQ} {ar0 : Nat} {r1 : Option Nat} {x2 : Int} {l3 : Option aV} {f1 : List aV} (h2 : h ar0 = cO 1 f1) (k : Rn d 0 0 mX1_sees 0 [some (vR (some ar0)), some (vR r1), some (vI 12)] [] h n (fun v h1 n1 => Rn (d + 1) bc bs mX1_readProduct 31 [some (vR (some ar0)), some (vR r1), some (vI x2), l3] (v.toList ++ []) h1 n1 Q)) : Rn (d + 1) (bc) (bs) mX1_readProduct 24 [some (vR (some ar0)), some (vR r1), some (vI x2), l3] [] h n Q := by
  refine Rn_aload_n dX1_readProduct_24 rfl rfl rfl ?_
  refine Rn_aload_n dX1_readProduct_25 rfl rfl rfl ?_
  refine Rn_bipush dX1_readProduct_26 rfl ?_
  exact Rn_callV (ci := 1) (avs := [vR r1, vI 12]) (st := []) (bc1 := 0) (bs1 := 0) (bc2 := bc) (bs2 := bs) fx_X1_sees dX1_readProduct_28 wd_680 wd_682 wd_16 rfl h2 rfl (Nat.le_of_ble_eq_true rfl) (Nat.le_of_ble_eq_true rfl) (by omega) (by omega) (ls1 := [some (vR (some ar0)), some (vR r1), some (vI 12)]) rfl k
theorem BX1_readProduct_31 {d bc bs : Nat} {h : aH} {n : Nat} {Q : aQ} {r0 r1 : Option Nat} {x2 s0 : Int} {l3 : Option aV} (kt : s0 = 0 → Rn d bc bs mX1_readProduct 61 [some (vR r0), some (vR r1), some (vI x2), l3] [] h n Q) (kf : s0 ≠ 0 → Rn d bc bs mX1_readProduct 34 [some (vR r0), some (vR r1), some (vI x2), l3] [] h n Q) : Rn d (bc) (bs) mX1_readProduct 31 [some (vR r0), some (vR r1), some (vI x2), l3] [vI s0] h n Q := by
  refine Rn_ifeq (tgt := 61) dX1_readProduct_31 rfl ?_ ?_
  · exact kt
  · exact kf
theorem BX1_readProduct_34 {d bc bs : Nat} {h : aH} {n : Nat} {Q : aQ} {r0 : Option Nat} {ar1 : Nat} {x2 v3 : Int} {l3 : Option aV} {f1 : List aV} (h2 : h ar1 = cO 9 f1) (g4 : f1[2]? = some (vI v3)) (k : Rn d 0 0 mX9_comeToNext 0 [some (vR (some ar1)), none] [] h n (fun v h1 n1 => Rn (d + 1) bc bs mX1_readProduct 43 [some (vR r0), some (vR (some ar1)), some (vI x2), some (vI v3)] (v.toList ++ []) h1 n1 Q)) : Rn (d + 1) (bc) (bs) mX1_readProduct 34 [some (vR r0), some (vR (some ar1)), some (vI x2), l3] [] h n Q := by
  refine Rn_aload_n dX1_readProduct_34 rfl rfl rfl ?_
  refine Rn_getfield (ci := 9) (k := 2) dX1_readProduct_35 rfl in_9 (Nat.le_of_ble_eq_true rfl) wd_330 rfl h2 g4 ?_
  refine Rn_istore_n dX1_readProduct_38 rfl (Nat.le_of_ble_eq_true rfl) rfl rfl ?_
  refine Rn_aload_n dX1_readProduct_39 rfl rfl rfl ?_
  exact Rn_callV (ci := 9) (avs := []) (st := []) (bc1 := 0) (bs1 := 0) (bc2 := bc) (bs2 := bs) fx_X9_comeToNext dX1_readProduct_40 wd_641 wd_544 wd_545 rfl h2 rfl (Nat.le_of_ble_eq_true rfl) (Nat.le_of_ble_eq_true rfl) (by omega) (by omega) (ls1 := [some (vR (some ar1)), none]) rfl k
theorem BX1_readProduct_43 {d bc bs : Nat} {h : aH} {n : Nat} {Q : aQ} {ar0 : Nat} {r1 : Option Nat} {x2 x3 : Int} {f1 : List aV} (h2 : h ar0 = cO 1 f1) (k : Rn d 0 0 mX1_readOne 0 [some (vR (some ar0)), some (vR r1)] [] h n (fun v h1 n1 => Rn (d + 1) bc bs mX1_readProduct 48 [some (vR (some ar0)), some (vR r1), some (vI x2), some (vI x3)] (v.toList ++ []) h1 n1 Q)) : Rn (d + 1) (bc) (bs) mX1_readProduct 43 [some (vR (some ar0)), some (vR r1), some (vI x2), some (vI x3)] [] h n Q := by
  refine Rn_aload_n dX1_readProduct_43 rfl rfl rfl ?_
  refine Rn_aload_n dX1_readProduct_44 rfl rfl rfl ?_
  exact Rn_callV (ci := 1) (avs := [vR r1]) (st := []) (bc1 := 0) (bs1 := 0) (bc2 := bc) (bs2 := bs) fx_X1_readOne dX1_readProduct_45 wd_650 wd_652 wd_10 rfl h2 rfl (Nat.le_of_ble_eq_true rfl) (Nat.le_of_ble_eq_true rfl) (by omega) (by omega) (ls1 := [some (vR (some ar0)), some (vR r1)]) rfl k
theorem BX1_readProduct_48 {d bc bs : Nat} {h : aH} {n : Nat} {Q : aQ} {ar0 : Nat} {r1 : Option Nat} {x2 x3 : Int} {f1 : List aV} (h2 : h ar0 = cO 1 f1) (k : Rn d 0 0 mX1_addSign 0 [some (vR (some ar0)), some (vI x3), some (vI 0), none] [] h n (fun v h1 n1 => Rn (d + 1) bc bs mX1_readProduct 54 [some (vR (some ar0)), some (vR r1), some (vI x2), some (vI x3)] (v.toList ++ []) h1 n1 Q)) : Rn (d + 1) (bc) (bs) mX1_readProduct 48 [some (vR (some ar0)), some (vR r1), some (vI x2), some (vI x3)] [] h n Q := by
  refine Rn_aload_n dX1_readProduct_48 rfl rfl rfl ?_
  refine Rn_iload_n dX1_readProduct_49 rfl rfl ?_
  refine Rn_iconst dX1_readProduct_50 rfl ?_
  exact Rn_callV (ci := 1) (avs := [vI x3, vI 0]) (st := []) (bc1 := 0) (bs1 := 0) (bc2 := bc) (bs2 := bs) fx_X1_addSign dX1_readProduct_51 wd_658 wd_660 wd_12 rfl h2 rfl (Nat.le_of_ble_eq_true rfl) (Nat.le_of_ble_eq_true rfl) (by omega) (by omega) (ls1 := [some (vR (some ar0)), some (vI x3), some (vI 0), none]) rfl k
theorem BX1_readProduct_54 {d bc bs : Nat} {h : aH} {n : Nat} {Q : aQ} {r0 r1 : Option Nat} {x2 x3 s0 : Int} (b1 : -2147483648 ≤ x2 + 1 ∧ x2 + 1 < 2147483648) (k : Rn d bc bs mX1_readProduct 7 [some (vR r0), some (vR r1), some (vI (x2 + 1)), some (vI x3)] [] h n Q) : Rn d (bc) (bs) mX1_readProduct 54 [some (vR r0), some (vR r1), some (vI x2), some (vI x3)] [vI s0] h n Q := by
  refine Rn_pop dX1_readProduct_54 rfl ?_
  refine Rn_iinc dX1_readProduct_55 rfl (Nat.le_of_ble_eq_true rfl) rfl rfl rfl ?_
  rw [w32_id b1.1 b1.2]
  refine Rn_goto (tgt := 7) dX1_readProduct_58 rfl ?_
  exact k
theorem BX1_readProduct_61 {d bc bs : Nat} {h : aH} {n : Nat} {Q : aQ} {r0 r1 : Option Nat} {x2 : Int} {l3 : Option aV} (k : Q none h n) : Rn d (bc) (bs) mX1_readProduct 61 [some (vR r0), some (vR r1), some (vI x2), l3] [] h n Q := by
  exact Rn_return rfl dX1_readProduct_61 k
theorem dX1_readOne_0 : decode cX1_readOne 0 = .ok (.aload_n 0, 1) := by decide +kernel
theorem dX1_readOne_1 : decode cX1_readOne 1 = .ok (.getfield 33, 3) := by decide +kernel
theorem dX1_readOne_4 : decode cX1_readOne 4 = .ok (.ifCond .eq 4, 3) := by decide +kernel
theorem dX1_readOne_7 : decode cX1_readOne 7 = .ok (.return_, 1) := by decide +kernel
theorem dX1_readOne_8 : decode cX1_readOne 8 = .ok (.aload_n 1, 1) := by decide +kernel
theorem dX1_readOne_9 : decode cX1_readOne 9 = .ok (.getfield 44, 3) := by decide +kernel
theorem dX1_readOne_12 : decode cX1_readOne 12 = .ok (.iconst 2, 1) := by decide +kernel
theorem dX1_readOne_13 : decode cX1_readOne 13 = .ok (.if_icmp .ne 11, 3) := by decide +kernel
theorem dX1_readOne_16 : decode cX1_readOne 16 = .ok (.aload_n 0, 1) := by decide +kernel
theorem dX1_readOne_17 : decode cX1_readOne 17 = .ok (.aload_n 1, 1) := by decide +kernel
theorem dX1_readOne_18 : decode cX1_readOne 18 = .ok (.invokevirtual 136, 3) := by decide +kernel
theorem dX1_readOne_21 : decode cX1_readOne 21 = .ok (.goto 91, 3) := by decide +kernel
theorem dX1_readOne_24 : decode cX1_readOne 24 = .ok (.aload_n 1, 1) := by decide +kernel
theorem dX1_readOne_25 : decode cX1_readOne 25 = .ok (.getfield 44, 3) := by decide +kernel
theorem dX1_readOne_28 : decode cX1_readOne 28 = .ok (.bipush 23, 2) := by decide +kernel
theorem dX1_readOne_30 : decode cX1_readOne 30 = .ok (.if_icmp .lt 20, 3) := by decide +kernel
theorem dX1_readOne_33 : decode cX1_readOne 33 = .ok (.aload_n 1, 1) := by decide +kernel
theorem dX1_readOne_34 : decode cX1_readOne 34 = .ok (.getfield 44, 3) := by decide +kernel
theorem dX1_readOne_37 : decode cX1_readOne 37 = .ok (.bipush 30, 2) := by decide +kernel
theorem dX1_readOne_39 : decode cX1_readOne 39 = .ok (.if_icmp .gt 11, 3) := by decide +kernel
theorem dX1_readOne_42 : decode cX1_readOne 42 = .ok (.aload_n 0, 1) := by decide +kernel
theorem dX1_readOne_43 : decode cX1_readOne 43 = .ok (.aload_n 1, 1) := by decide +kernel
theorem dX1_readOne_44 : decode cX1_readOne 44 = .ok (.invokevirtual 139, 3) := by decide +kernel
theorem dX1_readOne_47 : decode cX1_readOne 47 = .ok (.goto 65, 3) := by decide +kernel
theorem dX1_readOne_50 : decode cX1_readOne 50 = .ok (.aload_n 1, 1) := by decide +kernel
theorem dX1_readOne_51 : decode cX1_readOne 51 = .ok (.getfield 44, 3) := by decide +kernel
theorem dX1_readOne_54 : decode cX1_readOne 54 = .ok (.invokestatic 142, 3) := by decide +kernel
theorem dX1_readOne_57 : decode cX1_readOne 57 = .ok (.ifCond .ne 12, 3) := by decide +kernel
theorem dX1_readOne_60 : decode cX1_readOne 60 = .ok (.aload_n 0, 1) := by decide +kernel
theorem dX1_readOne_61 : decode cX1_readOne 61 = .ok (.aload_n 1, 1) := by decide +kernel
theorem dX1_readOne_62 : decode cX1_readOne 62 = .ok (.iconst 1, 1) := by decide +kernel
theorem dX1_readOne_63 : decode cX1_readOne 63 = .ok (.invokevirtual 80, 3) := by decide +kernel
theorem dX1_readOne_66 : decode cX1_readOne 66 = .ok (.goto 46, 3) := by decide +kernel
theorem dX1_readOne_69 : decode cX1_readOne 69 = .ok (.aload_n 0, 1) := by decide +kernel
theorem dX1_readOne_70 : decode cX1_readOne 70 = .ok (.getfield 24, 3) := by decide +kernel
theorem dX1_readOne_73 : decode cX1_readOne 73 = .ok (.bipush 8, 2) := by decide +kernel
theorem dX1_readOne_75 : decode cX1_readOne 75 = .ok (.if_icmp .lt 12, 3) := by decide +kernel
theorem dX1_readOne_78 : decode cX1_readOne 78 = .ok (.aload_n 0, 1) := by decide +kernel
theorem dX1_readOne_79 : decode cX1_readOne 79 = .ok (.aload_n 1, 1) := by decide +kernel
theorem dX1_readOne_80 : decode cX1_readOne 80 = .ok (.iconst 3, 1) := by decide +kernel
theorem dX1_readOne_81 : decode cX1_readOne 81 = .ok (.invokevirtual 80, 3) := by decide +kernel
theorem dX1_readOne_84 : decode cX1_readOne 84 = .ok (.goto 28, 3) := by decide +kernel
theorem dX1_readOne_87 : decode cX1_readOne 87 = .ok (.aload_n 0, 1) := by decide +kernel
theorem dX1_readOne_88 : decode cX1_readOne 88 = .ok (.dup, 1) := by decide +kernel
theorem dX1_readOne_89 : decode cX1_readOne 89 = .ok (.getfield 24, 3) := by decide +kernel
theorem dX1_readOne_92 : decode cX1_readOne 92 = .ok (.iconst 1, 1) := by decide +kernel
theorem dX1_readOne_93 : decode cX1_readOne 93 = .ok (.iadd, 1) := by decide +kernel
theorem dX1_readOne_94 : decode cX1_readOne 94 = .ok (.putfield 24, 3) := by decide +kernel
theorem dX1_readOne_97 : decode cX1_readOne 97 = .ok (.aload_n 0, 1) := by decide +kernel
theorem dX1_readOne_98 : decode cX1_readOne 98 = .ok (.aload_n 1, 1) := by decide +kernel
theorem dX1_readOne_99 : decode cX1_readOne 99 = .ok (.invokevirtual 146, 3) := by decide +kernel
theorem dX1_readOne_102 : decode cX1_readOne 102 = .ok (.aload_n 0, 1) := by decide +kernel
theorem dX1_readOne_103 : decode cX1_readOne 103 = .ok (.dup, 1) := by decide +kernel
theorem dX1_readOne_104 : decode cX1_readOne 104 = .ok (.getfield 24, 3) := by decide +kernel
theorem dX1_readOne_107 : decode cX1_readOne 107 = .ok (.iconst 1, 1) := by decide +kernel
theorem dX1_readOne_108 : decode cX1_readOne 108 = .ok (.isub, 1) := by decide +kernel
theorem dX1_readOne_109 : decode cX1_readOne 109 = .ok (.putfield 24, 3) := by decide +kernel
theorem dX1_readOne_112 : decode cX1_readOne 112 = .ok (.return_, 1) := by decide +kernel
theorem BX1_readOne_0 {d bc bs : Nat} {h : aH} {n : Nat} {Q : aQ} {ar0 : Nat} {r1 : Option Nat} {f1 : List aV} {v3 : Int} (h2 : h ar0 = cO 1 f1) (g4 : f1[8]? = some (vI v3)) (kt : v3 = 0 → Rn d bc bs mX1_readOne 8 [some (vR (some ar0)), some (vR r1)] [] h n Q) (kf : v3 ≠ 0 → Rn d bc bs mX1_readOne 7 [some (vR (some ar0)), some (vR r1)] [] h n Q) : Rn d (bc) (bs) mX1_readOne 0 [some (vR (some ar0)), some (vR r1)] [] h n Q := by
  refine Rn_aload_n dX1_readOne_0 rfl rfl rfl ?_
  refine Rn_getfield (ci := 1) (k := 8) dX1_readOne_1 rfl in_1 (Nat.le_of_ble_eq_true rfl) wd_363 rfl h2 g4 ?_
  refine Rn_ifeq (tgt := 8) dX1_readOne_4 rfl ?_ ?_
  · exact kt
  · exact kf
theorem BX1_readOne_7 {d bc bs : Nat} {h : aH} {n : Nat} {Q : aQ} {r0 r1 : Option Nat} (k : Q none h n) : Rn d (bc) (bs) mX1_readOne 7 [some (vR r0), some (vR r1)] [] h n Q := by
  exact Rn_return rfl dX1_readOne_7 k
theorem BX1_readOne_8 {d bc bs : Nat} {h : aH} {n : Nat} {Q : aQ} {r0 : Option Nat} {ar1 : Nat} {f1 : List aV} {v3 : Int} (h2 : h ar1 = cO 9 f1) (g4 : f1[2]? = some (vI v3)) (kt : v3 ≠ 2 → Rn d bc bs mX1_readOne 24 [some (vR r0), some (vR (some ar1))] [] h n Q) (kf : v3 = 2 → Rn d bc bs mX1_readOne 16 [some (vR r0), some (vR (some ar1))] [] h n Q) : Rn d (bc) (bs) mX1_readOne 8 [some (vR r0), some (vR (some ar1))] [] h n Q := by
  refine Rn_aload_n dX1_readOne_8 rfl rfl rfl ?_
  refine Rn_getfield (ci := 9) (k := 2) dX1_readOne_9 rfl in_9 (Nat.le_of_ble_eq_true rfl) wd_330 rfl h2 g4 ?_
  refine Rn_iconst dX1_readOne_12 rfl ?_
  refine Rn_icmpne (tgt := 24) dX1_readOne_13 rfl ?_ ?_
  · exact kt
  · exact kf
theorem BX1_readOne_16 {d bc bs : Nat} {h : aH} {n : Nat} {Q : aQ} {ar0 : Nat} {r1 : Option Nat} {f1 : List aV} (h2 : h ar0 = cO 1 f1) (k : Rn d 0 0 mX1_readPlainNumber 0 [some (vR (some ar0)), some (vR r1)] [] h n (fun v h1 n1 => Rn (d + 1) bc bs mX1_readOne 21 [some (vR (some ar0)), some (vR r1)] (v.toList ++ []) h1 n1 Q)) : Rn (d + 1) (bc) (bs) mX1_readOne 16 [some (vR (some ar0)), some (vR r1)] [] h n Q := by
  refine Rn_aload_n dX1_readOne_16 rfl rfl rfl ?_
  refine Rn_aload_n dX1_readOne_17 rfl rfl rfl ?_
  exact Rn_callV (ci := 1) (avs := [vR r1]) (st := []) (bc1 := 0) (bs1 := 0) (bc2 := bc) (bs2 := bs) fx_X1_readPlainNumber dX1_readOne_18 wd_654 wd_656 wd_11 rfl h2 rfl (Nat.le_of_ble_eq_true rfl) (Nat.le_of_ble_eq_true rfl) (by omega) (by omega) (ls1 := [some (vR (some ar0)), some (vR r1)]) rfl k
theorem BX1_readOne_21 {d bc bs : Nat} {h : aH} {n : Nat} {Q : aQ} {r0 r1 : Option Nat} (k : Q none h n) : Rn d (bc) (bs) mX1_readOne 21 [some (vR r0), some (vR r1)] [] h n Q := by
  refine Rn_goto (tgt := 112) dX1_readOne_21 rfl ?_
  exact Rn_return rfl dX1_readOne_112 k
theorem BX1_readOne_24 {d bc bs : Nat} {h : aH} {n : Nat} {Q : aQ} {r0 : Option Nat} {ar1 : Nat} {f1 : List aV} {v3 : Int} (h2 : h ar1 = cO 9 f1) (g4 : f1[2]? = some (vI v3)) (kt : v3 < 23 → Rn d bc bs mX1_readOne 50 [some (vR r0), some (vR (some ar1))] [] h n Q) (kf : 23 ≤ v3 → Rn d bc bs mX1_readOne 33 [some (vR r0), some (vR (some ar1))] [] h n Q) : Rn d (bc) (bs) mX1_readOne 24 [some (vR r0), some (vR (some ar1))] [] h n Q := by
  refine Rn_aload_n dX1_readOne_24 rfl rfl rfl ?_
  refine Rn_getfield (ci := 9) (k := 2) dX1_readOne_25 rfl in_9 (Nat.le_of_ble_eq_true rfl) wd_330 rfl h2 g4 ?_
  refine Rn_bipush dX1_readOne_28 rfl ?_
  refine Rn_icmplt (tgt := 50) dX1_readOne_30 rfl ?_ ?_
  · exact kt
  · exact kf
theorem BX1_readOne_33 {d bc bs : Nat} {h : aH} {n : Nat} {Q : aQ} {r0 : Option Nat} {ar1 : Nat} {f1 : List aV} {v3 : Int} (h2 : h ar1 = cO 9 f1) (g4 : f1[2]? = some (vI v3)) (kt : 30 < v3 → Rn d bc bs mX1_readOne 50 [some (vR r0), some (vR (some ar1))] [] h n Q) (kf : v3 ≤ 30 → Rn d bc bs mX1_readOne 42 [some (vR r0), some (vR (some ar1))] [] h n Q) : Rn d (bc) (bs) mX1_readOne 33 [some (vR r0), some (vR (some ar1))] [] h n Q := by
  refine Rn_aload_n dX1_readOne_33 rfl rfl rfl ?_
  refine Rn_getfield (ci := 9) (k := 2) dX1_readOne_34 rfl in_9 (Nat.le_of_ble_eq_true rfl) wd_330 rfl h2 g4 ?_
  refine Rn_bipush dX1_readOne_37 rfl ?_
  refine Rn_icmpgt (tgt := 50) dX1_readOne_39 rfl ?_ ?_
  · exact kt
  · exact kf
theorem BX1_readOne_42 {d bc bs : Nat} {h : aH} {n : Nat} {Q : aQ} {ar0 : Nat} {r1 : Option Nat} {f1 : List aV} (h2 : h ar0 = cO 1 f1) (k : Rn d 0 0 mX1_readName 0 [some (vR (some ar0)), some (vR r1)] [] h n (fun v h1 n1 => Rn (d + 1) bc bs mX1_readOne 47 [some (vR (some ar0)), some (vR r1)] (v.toList ++ []) h1 n1 Q)) : Rn (d + 1) (bc) (bs) mX1_readOne 42 [some (vR (some ar0)), some (vR r1)] [] h n Q := by
  refine Rn_aload_n dX1_readOne_42 rfl rfl rfl ?_
  refine Rn_aload_n dX1_readOne_43 rfl rfl rfl ?_
  exact Rn_callV (ci := 1) (avs := [vR r1]) (st := []) (bc1 := 0) (bs1 := 0) (bc2 := bc) (bs2 := bs) fx_X1_readName dX1_readOne_44 wd_665 wd_667 wd_13 rfl h2 rfl (Nat.le_of_ble_eq_true rfl) (Nat.le_of_ble_eq_true rfl) (by omega) (by omega) (ls1 := [some (vR (some ar0)), some (vR r1)]) rfl k
theorem BX1_readOne_47 {d bc bs : Nat} {h : aH} {n : Nat} {Q : aQ} {r0 r1 : Option Nat} (k : Q none h n) : Rn d (bc) (bs) mX1_readOne 47 [some (vR r0), some (vR r1)] [] h n Q := by
  refine Rn_goto (tgt := 112) dX1_readOne_47 rfl ?_
  exact Rn_return rfl dX1_readOne_112 k
theorem BX1_readOne_50 {d bc bs : Nat} {h : aH} {n : Nat} {Q : aQ} {r0 : Option Nat} {ar1 : Nat} {f1 : List aV} {v3 : Int} (h2 : h ar1 = cO 9 f1) (g4 : f1[2]? = some (vI v3)) (k : Rn d 0 0 mX1_isOpener 0 [some (vI v3)] [] h n (fun v h1 n1 => Rn (d + 1) bc bs mX1_readOne 57 [some (vR r0), some (vR (some ar1))] (v.toList ++ []) h1 n1 Q)) : Rn (d + 1) (bc) (bs) mX1_readOne 50 [some (vR r0), some (vR (some ar1))] [] h n Q := by
  refine Rn_aload_n dX1_readOne_50 rfl rfl rfl ?_
  refine Rn_getfield (ci := 9) (k := 2) dX1_readOne_51 rfl in_9 (Nat.le_of_ble_eq_true rfl) wd_330 rfl h2 g4 ?_
  exact Rn_callS (avs := [vI v3]) (st := []) (bc1 := 0) (bs1 := 0) (bc2 := bc) (bs2 := bs) fx_X1_isOpener dX1_readOne_54 (Or.inl wd_669) wd_670 rfl (Nat.le_of_ble_eq_true rfl) (Nat.le_of_ble_eq_true rfl) (by omega) (by omega) (ls1 := [some (vI v3)]) rfl k
theorem BX1_readOne_57 {d bc bs : Nat} {h : aH} {n : Nat} {Q : aQ} {r0 r1 : Option Nat} {s0 : Int} (kt : s0 ≠ 0 → Rn d bc bs mX1_readOne 69 [some (vR r0), some (vR r1)] [] h n Q) (kf : s0 = 0 → Rn d bc bs mX1_readOne 60 [some (vR r0), some (vR r1)] [] h n Q) : Rn d (bc) (bs) mX1_readOne 57 [some (vR r0), some (vR r1)] [vI s0] h n Q := by
  refine Rn_ifne (tgt := 69) dX1_readOne_57 rfl ?_ ?_
  · exact kt
  · exact kf
theorem BX1_readOne_60 {d bc bs : Nat} {h : aH} {n : Nat} {Q : aQ} {ar0 : Nat} {r1 : Option Nat} {f1 : List aV} (h2 : h ar0 = cO 1 f1) (k : Rn d 0 0 mX1_refuse 0 [some (vR (some ar0)), some (vR r1), some (vI 1)] [] h n (fun v h1 n1 => Rn (d + 1) bc bs mX1_readOne 66 [some (vR (some ar0)), some (vR r1)] (v.toList ++ []) h1 n1 Q)) : Rn (d + 1) (bc) (bs) mX1_readOne 60 [some (vR (some ar0)), some (vR r1)] [] h n Q := by
  refine Rn_aload_n dX1_readOne_60 rfl rfl rfl ?_
  refine Rn_aload_n dX1_readOne_61 rfl rfl rfl ?_
  refine Rn_iconst dX1_readOne_62 rfl ?_
  exact Rn_callV (ci := 1) (avs := [vR r1, vI 1]) (st := []) (bc1 := 0) (bs1 := 0) (bc2 := bc) (bs2 := bs) fx_X1_refuse dX1_readOne_63 wd_628 wd_630 wd_5 rfl h2 rfl (Nat.le_of_ble_eq_true rfl) (Nat.le_of_ble_eq_true rfl) (by omega) (by omega) (ls1 := [some (vR (some ar0)), some (vR r1), some (vI 1)]) rfl k
theorem BX1_readOne_66 {d bc bs : Nat} {h : aH} {n : Nat} {Q : aQ} {r0 r1 : Option Nat} (k : Q none h n) : Rn d (bc) (bs) mX1_readOne 66 [some (vR r0), some (vR r1)] [] h n Q := by
  refine Rn_goto (tgt := 112) dX1_readOne_66 rfl ?_
  exact Rn_return rfl dX1_readOne_112 k
theorem BX1_readOne_69 {d bc bs : Nat} {h : aH} {n : Nat} {Q : aQ} {ar0 : Nat} {r1 : Option Nat} {f1 : List aV} {v3 : Int} (h2 : h ar0 = cO 1 f1) (g4 : f1[4]? = some (vI v3)) (kt : v3 < 8 → Rn d bc bs mX1_readOne 87 [some (vR (some ar0)), some (vR r1)] [] h n Q) (kf : 8 ≤ v3 → Rn d bc bs mX1_readOne 78 [some (vR (some ar0)), some (vR r1)] [] h n Q) : Rn d (bc) (bs) mX1_readOne 69 [some (vR (some ar0)), some (vR r1)] [] h n Q := by
  refine Rn_aload_n dX1_readOne_69 rfl rfl rfl ?_
  refine Rn_getfield (ci := 1) (k := 4) dX1_readOne_70 rfl in_1 (Nat.le_of_ble_eq_true rfl) wd_359 rfl h2 g4 ?_
  refine Rn_bipush dX1_readOne_73 rfl ?_
  refine Rn_icmplt (tgt := 87) dX1_readOne_75 rfl ?_ ?_
  · exact kt
  · exact kf
theorem BX1_readOne_78 {d bc bs : Nat} {h : aH} {n : Nat} {Q : aQ} {ar0 : Nat} {r1 : Option Nat} {f1 : List aV} (h2 : h ar0 = cO 1 f1) (k : Rn d 0 0 mX1_refuse 0 [some (vR (some ar0)), some (vR r1), some (vI 3)] [] h n (fun v h1 n1 => Rn (d + 1) bc bs mX1_readOne 84 [some (vR (some ar0)), some (vR r1)] (v.toList ++ []) h1 n1 Q)) : Rn (d + 1) (bc) (bs) mX1_readOne 78 [some (vR (some ar0)), some (vR r1)] [] h n Q := by
  refine Rn_aload_n dX1_readOne_78 rfl rfl rfl ?_
  refine Rn_aload_n dX1_readOne_79 rfl rfl rfl ?_
  refine Rn_iconst dX1_readOne_80 rfl ?_
  exact Rn_callV (ci := 1) (avs := [vR r1, vI 3]) (st := []) (bc1 := 0) (bs1 := 0) (bc2 := bc) (bs2 := bs) fx_X1_refuse dX1_readOne_81 wd_628 wd_630 wd_5 rfl h2 rfl (Nat.le_of_ble_eq_true rfl) (Nat.le_of_ble_eq_true rfl) (by omega) (by omega) (ls1 := [some (vR (some ar0)), some (vR r1), some (vI 3)]) rfl k
theorem BX1_readOne_84 {d bc bs : Nat} {h : aH} {n : Nat} {Q : aQ} {r0 r1 : Option Nat} (k : Q none h n) : Rn d (bc) (bs) mX1_readOne 84 [some (vR r0), some (vR r1)] [] h n Q := by
  refine Rn_goto (tgt := 112) dX1_readOne_84 rfl ?_
  exact Rn_return rfl dX1_readOne_112 k
theorem BX1_readOne_87 {d bc bs : Nat} {h : aH} {n : Nat} {Q : aQ} {ar0 : Nat} {r1 : Option Nat} {f1 : List aV} {v3 : Int} (h2 : h ar0 = cO 1 f1) (g4 : f1[4]? = some (vI v3)) (b5 : -2147483648 ≤ v3 + 1 ∧ v3 + 1 < 2147483648) (m6 : 4 < f1.length) (k : Rn d bc bs mX1_readOne 97 [some (vR (some ar0)), some (vR r1)] [] (up h ar0 (cO 1 (f1.set 4 (vI (v3 + 1))))) n Q) : Rn d (bc) (bs) mX1_readOne 87 [some (vR (some ar0)), some (vR r1)] [] h n Q := by
  refine Rn_aload_n dX1_readOne_87 rfl rfl rfl ?_
  refine Rn_dup dX1_readOne_88 rfl ?_
  refine Rn_getfield (ci := 1) (k := 4) dX1_readOne_89 rfl in_1 (Nat.le_of_ble_eq_true rfl) wd_359 rfl h2 g4 ?_
  refine Rn_iconst dX1_readOne_92 rfl ?_
  refine Rn_iadd dX1_readOne_93 ?_
  rw [w32_id b5.1 b5.2]
  refine Rn_putfield (ci := 1) (k := 4) dX1_readOne_94 rfl in_1 tyX1_ok nmX1 (Nat.le_of_ble_eq_true rfl) wd_359 rfl (Or.inl rfl) trivial m6 h2 ?_
  exact k
theorem BX1_readOne_97 {d bc bs : Nat} {h : aH} {n : Nat} {Q : aQ} {ar0 : Nat} {r1 : Option Nat} {f1 : List aV} (h2 : h ar0 = cO 1 f1) (k : Rn d 0 0 mX1_readOpened 0 [some (vR (some ar0)), some (vR r1), none] [] h n (fun v h1 n1 => Rn (d + 1) bc bs mX1_readOne 102 [some (vR (some ar0)), some (vR r1)] (v.toList ++ []) h1 n1 Q)) : Rn (d + 1) (bc) (bs) mX1_readOne 97 [some (vR (some ar0)), some (vR r1)] [] h n Q := by
  refine Rn_aload_n dX1_readOne_97 rfl rfl rfl ?_
  refine Rn_aload_n dX1_readOne_98 rfl rfl rfl ?_
  exact Rn_callV (ci := 1) (avs := [vR r1]) (st := []) (bc1 := 0) (bs1 := 0) (bc2 := bc) (bs2 := bs) fx_X1_readOpened dX1_readOne_99 wd_672 wd_674 wd_14 rfl h2 rfl (Nat.le_of_ble_eq_true rfl) (Nat.le_of_ble_eq_true rfl) (by omega) (by omega) (ls1 := [some (vR (some ar0)), some (vR r1), none]) rfl k
theorem BX1_readOne_102 {d bc bs : Nat} {h : aH} {n : Nat} {Q : aQ} {ar0 : Nat} {r1 : Option Nat} {f1 : List aV} {v3 : Int} (h2 : h ar0 = cO 1 f1) (g4 : f1[4]? = some (vI v3)) (b5 : -2147483648 ≤ v3 - 1 ∧ v3 - 1 < 2147483648) (m6 : 4 < f1.length) (k : Rn d bc bs mX1_readOne 112 [some (vR (some ar0)), some (vR r1)] [] (up h ar0 (cO 1 (f1.set 4 (vI (v3 - 1))))) n Q) : Rn d (bc) (bs) mX1_readOne 102 [some (vR (some ar0)), some (vR r1)] [] h n Q := by
  refine Rn_aload_n dX1_readOne_102 rfl rfl rfl ?_
  refine Rn_dup dX1_readOne_103 rfl ?_
  refine Rn_getfield (ci := 1) (k := 4) dX1_readOne_104 rfl in_1 (Nat.le_of_ble_eq_true rfl) wd_359 rfl h2 g4 ?_
  refine Rn_iconst dX1_readOne_107 rfl ?_
  refine Rn_isub dX1_readOne_108 ?_
  rw [w32_id b5.1 b5.2]
  refine Rn_putfield (ci := 1) (k := 4) dX1_readOne_109 rfl in_1 tyX1_ok nmX1 (Nat.le_of_ble_eq_true rfl) wd_359 rfl (Or.inl rfl) trivial m6 h2 ?_
  exact k
theorem BX1_readOne_112 {d bc bs : Nat} {h : aH} {n : Nat} {Q : aQ} {r0 r1 : Option Nat} (k : Q none h n) : Rn d (bc) (bs) mX1_readOne 112 [some (vR r0), some (vR r1)] [] h n Q := by
  exact Rn_return rfl dX1_readOne_112 k
theorem dX1_isOpener_0 : decode cX1_isOpener 0 = .ok (.iload_n 0, 1) := by decide +kernel
theorem dX1_isOpener_1 : decode cX1_isOpener 1 = .ok (.bipush 13, 2) := by decide +kernel
theorem dX1_isOpener_3 : decode cX1_isOpener 3 = .ok (.if_icmp .eq 27, 3) := by decide +kernel
theorem dX1_isOpener_6 : decode cX1_isOpener 6 = .ok (.iload_n 0, 1) := by decide +kernel
theorem dX1_isOpener_7 : decode cX1_isOpener 7 = .ok (.bipush 10, 2) := by decide +kernel
theorem dX1_isOpener_9 : decode cX1_isOpener 9 = .ok (.if_icmp .eq 21, 3) := by decide +kernel
theorem dX1_isOpener_12 : decode cX1_isOpener 12 = .ok (.iload_n 0, 1) := by decide +kernel
theorem dX1_isOpener_13 : decode cX1_isOpener 13 = .ok (.bipush 32, 2) := by decide +kernel
theorem dX1_isOpener_15 : decode cX1_isOpener 15 = .ok (.if_icmp .eq 15, 3) := by decide +kernel
theorem dX1_isOpener_18 : decode cX1_isOpener 18 = .ok (.iload_n 0, 1) := by decide +kernel
theorem dX1_isOpener_19 : decode cX1_isOpener 19 = .ok (.bipush 34, 2) := by decide +kernel
theorem dX1_isOpener_21 : decode cX1_isOpener 21 = .ok (.if_icmp .eq 9, 3) := by decide +kernel
theorem dX1_isOpener_24 : decode cX1_isOpener 24 = .ok (.iload_n 0, 1) := by decide +kernel
theorem dX1_isOpener_25 : decode cX1_isOpener 25 = .ok (.bipush 35, 2) := by decide +kernel
theorem dX1_isOpener_27 : decode cX1_isOpener 27 = .ok (.if_icmp .ne 7, 3) := by decide +kernel
theorem dX1_isOpener_30 : decode cX1_isOpener 30 = .ok (.iconst 1, 1) := by decide +kernel
theorem dX1_isOpener_31 : decode cX1_isOpener 31 = .ok (.goto 4, 3) := by decide +kernel
theorem dX1_isOpener_34 : decode cX1_isOpener 34 = .ok (.iconst 0, 1) := by decide +kernel
theorem dX1_isOpener_35 : decode cX1_isOpener 35 = .ok (.ireturn, 1) := by decide +kernel
theorem BX1_isOpener_0 {d bc bs : Nat} {h : aH} {n : Nat} {Q : aQ} {x0 : Int} (kt : x0 = 13 → Rn d bc bs mX1_isOpener 30 [some (vI x0)] [] h n Q) (kf : x0 ≠ 13 → Rn d bc bs mX1_isOpener 6 [some (vI x0)] [] h n Q) : Rn d (bc) (bs) mX1_isOpener 0 [some (vI x0)] [] h n Q := by
  refine Rn_iload_n dX1_isOpener_0 rfl rfl ?_
  refine Rn_bipush dX1_isOpener_1 rfl ?_
  refine Rn_icmpeq (tgt := 30) dX1_isOpener_3 rfl ?_ ?_
  · exact kt
  · exact kf
theorem BX1_isOpener_6 {d bc bs : Nat} {h : aH} {n : Nat} {Q : aQ} {x0 : Int} (kt : x0 = 10 → Rn d bc bs mX1_isOpener 30 [some (vI x0)] [] h n Q) (kf : x0 ≠ 10 → Rn d bc bs mX1_isOpener 12 [some (vI x0)] [] h n Q) : Rn d (bc) (bs) mX1_isOpener 6 [some (vI x0)] [] h n Q := by
  refine Rn_iload_n dX1_isOpener_6 rfl rfl ?_
  refine Rn_bipush dX1_isOpener_7 rfl ?_
  refine Rn_icmpeq (tgt := 30) dX1_isOpener_9 rfl ?_ ?_
  · exact kt
  · exact kf
theorem BX1_isOpener_12 {d bc bs : Nat} {h : aH} {n : Nat} {Q : aQ} {x0 : Int} (kt : x0 = 32 → Rn d bc bs mX1_isOpener 30 [some (vI x0)] [] h n Q) (kf : x0 ≠ 32 → Rn d bc bs mX1_isOpener 18 [some (vI x0)] [] h n Q) : Rn d (bc) (bs) mX1_isOpener 12 [some (vI x0)] [] h n Q := by
  refine Rn_iload_n dX1_isOpener_12 rfl rfl ?_
  refine Rn_bipush dX1_isOpener_13 rfl ?_
  refine Rn_icmpeq (tgt := 30) dX1_isOpener_15 rfl ?_ ?_
  · exact kt
  · exact kf
theorem BX1_isOpener_18 {d bc bs : Nat} {h : aH} {n : Nat} {Q : aQ} {x0 : Int} (kt : x0 = 34 → Rn d bc bs mX1_isOpener 30 [some (vI x0)] [] h n Q) (kf : x0 ≠ 34 → Rn d bc bs mX1_isOpener 24 [some (vI x0)] [] h n Q) : Rn d (bc) (bs) mX1_isOpener 18 [some (vI x0)] [] h n Q := by
  refine Rn_iload_n dX1_isOpener_18 rfl rfl ?_
  refine Rn_bipush dX1_isOpener_19 rfl ?_
  refine Rn_icmpeq (tgt := 30) dX1_isOpener_21 rfl ?_ ?_
  · exact kt
  · exact kf
theorem BX1_isOpener_24 {d bc bs : Nat} {h : aH} {n : Nat} {Q : aQ} {x0 : Int} (kt : x0 ≠ 35 → Rn d bc bs mX1_isOpener 34 [some (vI x0)] [] h n Q) (kf : x0 = 35 → Rn d bc bs mX1_isOpener 30 [some (vI x0)] [] h n Q) : Rn d (bc) (bs) mX1_isOpener 24 [some (vI x0)] [] h n Q := by
  refine Rn_iload_n dX1_isOpener_24 rfl rfl ?_
  refine Rn_bipush dX1_isOpener_25 rfl ?_
  refine Rn_icmpne (tgt := 34) dX1_isOpener_27 rfl ?_ ?_
  · exact kt
  · exact kf
theorem BX1_isOpener_30 {d bc bs : Nat} {h : aH} {n : Nat} {Q : aQ} {x0 : Int} (k : Q (some (vI 1)) h n) : Rn d (bc) (bs) mX1_isOpener 30 [some (vI x0)] [] h n Q := by
  refine Rn_iconst dX1_isOpener_30 rfl ?_
  refine Rn_goto (tgt := 35) dX1_isOpener_31 rfl ?_
  exact Rn_zreturn rfl dX1_isOpener_35 (by decide) k
theorem BX1_isOpener_34 {d bc bs : Nat} {h : aH} {n : Nat} {Q : aQ} {x0 : Int} (k : Q (some (vI 0)) h n) : Rn d (bc) (bs) mX1_isOpener 34 [some (vI x0)] [] h n Q := by
  refine Rn_iconst dX1_isOpener_34 rfl ?_
  exact Rn_zreturn rfl dX1_isOpener_35 (by decide) k
theorem dX1_readPlainNumber_0 : decode cX1_readPlainNumber 0 = .ok (.aload_n 1, 1) := by decide +kernel
theorem dX1_readPlainNumber_1 : decode cX1_readPlainNumber 1 = .ok (.getfield 115, 3) := by decide +kernel
theorem dX1_readPlainNumber_4 : decode cX1_readPlainNumber 4 = .ok (.sipush 9999, 3) := by decide +kernel
theorem dX1_readPlainNumber_7 : decode cX1_readPlainNumber 7 = .ok (.if_icmp .le 10, 3) := by decide +kernel
theorem dX1_readPlainNumber_10 : decode cX1_readPlainNumber 10 = .ok (.aload_n 0, 1) := by decide +kernel
theorem dX1_readPlainNumber_11 : decode cX1_readPlainNumber 11 = .ok (.aload_n 1, 1) := by decide +kernel
theorem dX1_readPlainNumber_12 : decode cX1_readPlainNumber 12 = .ok (.iconst 2, 1) := by decide +kernel
theorem dX1_readPlainNumber_13 : decode cX1_readPlainNumber 13 = .ok (.invokevirtual 80, 3) := by decide +kernel
theorem dX1_readPlainNumber_16 : decode cX1_readPlainNumber 16 = .ok (.return_, 1) := by decide +kernel
theorem dX1_readPlainNumber_17 : decode cX1_readPlainNumber 17 = .ok (.aload_n 0, 1) := by decide +kernel
theorem dX1_readPlainNumber_18 : decode cX1_readPlainNumber 18 = .ok (.iconst 2, 1) := by decide +kernel
theorem dX1_readPlainNumber_19 : decode cX1_readPlainNumber 19 = .ok (.aload_n 1, 1) := by decide +kernel
theorem dX1_readPlainNumber_20 : decode cX1_readPlainNumber 20 = .ok (.getfield 115, 3) := by decide +kernel
theorem dX1_readPlainNumber_23 : decode cX1_readPlainNumber 23 = .ok (.invokevirtual 130, 3) := by decide +kernel
theorem dX1_readPlainNumber_26 : decode cX1_readPlainNumber 26 = .ok (.pop, 1) := by decide +kernel
theorem dX1_readPlainNumber_27 : decode cX1_readPlainNumber 27 = .ok (.aload_n 1, 1) := by decide +kernel
theorem dX1_readPlainNumber_28 : decode cX1_readPlainNumber 28 = .ok (.invokevirtual 77, 3) := by decide +kernel
theorem dX1_readPlainNumber_31 : decode cX1_readPlainNumber 31 = .ok (.return_, 1) := by decide +kernel
theorem BX1_readPlainNumber_0 {d bc bs : Nat} {h : aH} {n : Nat} {Q : aQ} {r0 : Option Nat} {ar1 : Nat} {f1 : List aV} {v3 : Int} (h2 : h ar1 = cO 9 f1) (g4 : f1[4]? = some (vI v3)) (kt : v3 ≤ 9999 → Rn d bc bs mX1_readPlainNumber 17 [some (vR r0), some (vR (some ar1))] [] h n Q) (kf : 9999 < v3 → Rn d bc bs mX1_readPlainNumber 10 [some (vR r0), some (vR (some ar1))] [] h n Q) : Rn d (bc) (bs) mX1_readPlainNumber 0 [some (vR r0), some (vR (some ar1))] [] h n Q := by
  refine Rn_aload_n dX1_readPlainNumber_0 rfl rfl rfl ?_
  refine Rn_getfield (ci := 9) (k := 4) dX1_readPlainNumber_1 rfl in_9 (Nat.le_of_ble_eq_true rfl) wd_334 rfl h2 g4 ?_
  refine Rn_sipush dX1_readPlainNumber_4 rfl ?_
  refine Rn_icmple (tgt := 17) dX1_readPlainNumber_7 rfl ?_ ?_
  · exact kt
  · exact kf
theorem BX1_readPlainNumber_10 {d bc bs : Nat} {h : aH} {n : Nat} {Q : aQ} {ar0 : Nat} {r1 : Option Nat} {f1 : List aV} (h2 : h ar0 = cO 1 f1) (k : Rn d 0 0 mX1_refuse 0 [some (vR (some ar0)), some (vR r1), some (vI 2)] [] h n (fun v h1 n1 => Rn (d + 1) bc bs mX1_readPlainNumber 16 [some (vR (some ar0)), some (vR r1)] (v.toList ++ []) h1 n1 Q)) : Rn (d + 1) (bc) (bs) mX1_readPlainNumber 10 [some (vR (some ar0)), some (vR r1)] [] h n Q := by
  refine Rn_aload_n dX1_readPlainNumber_10 rfl rfl rfl ?_
  refine Rn_aload_n dX1_readPlainNumber_11 rfl rfl rfl ?_
  refine Rn_iconst dX1_readPlainNumber_12 rfl ?_
  exact Rn_callV (ci := 1) (avs := [vR r1, vI 2]) (st := []) (bc1 := 0) (bs1 := 0) (bc2 := bc) (bs2 := bs) fx_X1_refuse dX1_readPlainNumber_13 wd_628 wd_630 wd_5 rfl h2 rfl (Nat.le_of_ble_eq_true rfl) (Nat.le_of_ble_eq_true rfl) (by omega) (by omega) (ls1 := [some (vR (some ar0)), some (vR r1), some (vI 2)]) rfl k
theorem BX1_readPlainNumber_16 {d bc bs : Nat} {h : aH} {n : Nat} {Q : aQ} {r0 r1 : Option Nat} (k : Q none h n) : Rn d (bc) (bs) mX1_readPlainNumber 16 [some (vR r0), some (vR r1)] [] h n Q := by
  exact Rn_return rfl dX1_readPlainNumber_16 k
theorem BX1_readPlainNumber_17 {d bc bs : Nat} {h : aH} {n : Nat} {Q : aQ} {ar0 ar1 : Nat} {f1 f5 : List aV} {v3 : Int} (h2 : h ar1 = cO 9 f1) (g4 : f1[4]? = some (vI v3)) (h6 : h ar0 = cO 1 f5) (k : Rn d 0 0 mX1_addSign 0 [some (vR (some ar0)), some (vI 2), some (vI v3), none] [] h n (fun v h1 n1 => Rn (d + 1) bc bs mX1_readPlainNumber 26 [some (vR (some ar0)), some (vR (some ar1))] (v.toList ++ []) h1 n1 Q)) : Rn (d + 1) (bc) (bs) mX1_readPlainNumber 17 [some (vR (some ar0)), some (vR (some ar1))] [] h n Q := by
  refine Rn_aload_n dX1_readPlainNumber_17 rfl rfl rfl ?_
  refine Rn_iconst dX1_readPlainNumber_18 rfl ?_
  refine Rn_aload_n dX1_readPlainNumber_19 rfl rfl rfl ?_
  refine Rn_getfield (ci := 9) (k := 4) dX1_readPlainNumber_20 rfl in_9 (Nat.le_of_ble_eq_true rfl) wd_334 rfl h2 g4 ?_
  exact Rn_callV (ci := 1) (avs := [vI 2, vI v3]) (st := []) (bc1 := 0) (bs1 := 0) (bc2 := bc) (bs2 := bs) fx_X1_addSign dX1_readPlainNumber_23 wd_658 wd_660 wd_12 rfl h6 rfl (Nat.le_of_ble_eq_true rfl) (Nat.le_of_ble_eq_true rfl) (by omega) (by omega) (ls1 := [some (vR (some ar0)), some (vI 2), some (vI v3), none]) rfl k
theorem BX1_readPlainNumber_26 {d bc bs : Nat} {h : aH} {n : Nat} {Q : aQ} {r0 : Option Nat} {ar1 : Nat} {s0 : Int} {f1 : List aV} (h2 : h ar1 = cO 9 f1) (k : Rn d 0 0 mX9_comeToNext 0 [some (vR (some ar1)), none] [] h n (fun v h1 n1 => Rn (d + 1) bc bs mX1_readPlainNumber 31 [some (vR r0), some (vR (some ar1))] (v.toList ++ []) h1 n1 Q)) : Rn (d + 1) (bc) (bs) mX1_readPlainNumber 26 [some (vR r0), some (vR (some ar1))] [vI s0] h n Q := by
  refine Rn_pop dX1_readPlainNumber_26 rfl ?_
  refine Rn_aload_n dX1_readPlainNumber_27 rfl rfl rfl ?_
  exact Rn_callV (ci := 9) (avs := []) (st := []) (bc1 := 0) (bs1 := 0) (bc2 := bc) (bs2 := bs) fx_X9_comeToNext dX1_readPlainNumber_28 wd_641 wd_544 wd_545 rfl h2 rfl (Nat.le_of_ble_eq_true rfl) (Nat.le_of_ble_eq_true rfl) (by omega) (by omega) (ls1 := [some (vR (some ar1)), none]) rfl k
theorem BX1_readPlainNumber_31 {d bc bs : Nat} {h : aH} {n : Nat} {Q : aQ} {r0 r1 : Option Nat} (k : Q none h n) : Rn d (bc) (bs) mX1_readPlainNumber 31 [some (vR r0), some (vR r1)] [] h n Q := by
  exact Rn_return rfl dX1_readPlainNumber_31 k
theorem dX1_readName_0 : decode cX1_readName 0 = .ok (.aload_n 0, 1) := by decide +kernel
theorem dX1_readName_1 : decode cX1_readName 1 = .ok (.getfield 91, 3) := by decide +kernel
theorem dX1_readName_4 : decode cX1_readName 4 = .ok (.ifCond .eq 19, 3) := by decide +kernel
theorem dX1_readName_7 : decode cX1_readName 7 = .ok (.aload_n 1, 1) := by decide +kernel
theorem dX1_readName_8 : decode cX1_readName 8 = .ok (.getfield 44, 3) := by decide +kernel
theorem dX1_readName_11 : decode cX1_readName 11 = .ok (.bipush 30, 2) := by decide +kernel
theorem dX1_readName_13 : decode cX1_readName 13 = .ok (.if_icmp .ne 10, 3) := by decide +kernel
theorem dX1_readName_16 : decode cX1_readName 16 = .ok (.aload_n 0, 1) := by decide +kernel
theorem dX1_readName_17 : decode cX1_readName 17 = .ok (.aload_n 1, 1) := by decide +kernel
theorem dX1_readName_18 : decode cX1_readName 18 = .ok (.iconst 5, 1) := by decide +kernel
theorem dX1_readName_19 : decode cX1_readName 19 = .ok (.invokevirtual 80, 3) := by decide +kernel
theorem dX1_readName_22 : decode cX1_readName 22 = .ok (.return_, 1) := by decide +kernel
theorem dX1_readName_23 : decode cX1_readName 23 = .ok (.aload_n 0, 1) := by decide +kernel
theorem dX1_readName_24 : decode cX1_readName 24 = .ok (.aload_n 1, 1) := by decide +kernel
theorem dX1_readName_25 : decode cX1_readName 25 = .ok (.getfield 44, 3) := by decide +kernel
theorem dX1_readName_28 : decode cX1_readName 28 = .ok (.iconst 0, 1) := by decide +kernel
theorem dX1_readName_29 : decode cX1_readName 29 = .ok (.invokevirtual 130, 3) := by decide +kernel
theorem dX1_readName_32 : decode cX1_readName 32 = .ok (.pop, 1) := by decide +kernel
theorem dX1_readName_33 : decode cX1_readName 33 = .ok (.aload_n 1, 1) := by decide +kernel
theorem dX1_readName_34 : decode cX1_readName 34 = .ok (.invokevirtual 77, 3) := by decide +kernel
theorem dX1_readName_37 : decode cX1_readName 37 = .ok (.return_, 1) := by decide +kernel
theorem BX1_readName_0 {d bc bs : Nat} {h : aH} {n : Nat} {Q : aQ} {ar0 : Nat} {r1 : Option Nat} {f1 : List aV} {v3 : Int} (h2 : h ar0 = cO 1 f1) (g4 : f1[5]? = some (vI v3)) (kt : v3 = 0 → Rn d bc bs mX1_readName 23 [some (vR (some ar0)), some (vR r1)] [] h n Q) (kf : v3 ≠ 0 → Rn d bc bs mX1_readName 7 [some (vR (some ar0)), some (vR r1)] [] h n Q) : Rn d (bc) (bs) mX1_readName 0 [some (vR (some ar0)), some (vR r1)] [] h n Q := by
  refine Rn_aload_n dX1_readName_0 rfl rfl rfl ?_
  refine Rn_getfield (ci := 1) (k := 5) dX1_readName_1 rfl in_1 (Nat.le_of_ble_eq_true rfl) wd_360 rfl h2 g4 ?_
  refine Rn_ifeq (tgt := 23) dX1_readName_4 rfl ?_ ?_
  · exact kt
  · exact kf
theorem BX1_readName_7 {d bc bs : Nat} {h : aH} {n : Nat} {Q : aQ} {r0 : Option Nat} {ar1 : Nat} {f1 : List aV} {v3 : Int} (h2 : h ar1 = cO 9 f1) (g4 : f1[2]? = some (vI v3)) (kt : v3 ≠ 30 → Rn d bc bs mX1_readName 23 [some (vR r0), some (vR (some ar1))] [] h n Q) (kf : v3 = 30 → Rn d bc bs mX1_readName 16 [some (vR r0), some (vR (some ar1))] [] h n Q) : Rn d (bc) (bs) mX1_readName 7 [some (vR r0), some (vR (some ar1))] [] h n Q := by
  refine Rn_aload_n dX1_readName_7 rfl rfl rfl ?_
  refine Rn_getfield (ci := 9) (k := 2) dX1_readName_8 rfl in_9 (Nat.le_of_ble_eq_true rfl) wd_330 rfl h2 g4 ?_
  refine Rn_bipush dX1_readName_11 rfl ?_
  refine Rn_icmpne (tgt := 23) dX1_readName_13 rfl ?_ ?_
  · exact kt
  · exact kf
theorem BX1_readName_16 {d bc bs : Nat} {h : aH} {n : Nat} {Q : aQ} {ar0 : Nat} {r1 : Option Nat} {f1 : List aV} (h2 : h ar0 = cO 1 f1) (k : Rn d 0 0 mX1_refuse 0 [some (vR (some ar0)), some (vR r1), some (vI 5)] [] h n (fun v h1 n1 => Rn (d + 1) bc bs mX1_readName 22 [some (vR (some ar0)), some (vR r1)] (v.toList ++ []) h1 n1 Q)) : Rn (d + 1) (bc) (bs) mX1_readName 16 [some (vR (some ar0)), some (vR r1)] [] h n Q := by
  refine Rn_aload_n dX1_readName_16 rfl rfl rfl ?_
  refine Rn_aload_n dX1_readName_17 rfl rfl rfl ?_
  refine Rn_iconst dX1_readName_18 rfl ?_
  exact Rn_callV (ci := 1) (avs := [vR r1, vI 5]) (st := []) (bc1 := 0) (bs1 := 0) (bc2 := bc) (bs2 := bs) fx_X1_refuse dX1_readName_19 wd_628 wd_630 wd_5 rfl h2 rfl (Nat.le_of_ble_eq_true rfl) (Nat.le_of_ble_eq_true rfl) (by omega) (by omega) (ls1 := [some (vR (some ar0)), some (vR r1), some (vI 5)]) rfl k
theorem BX1_readName_22 {d bc bs : Nat} {h : aH} {n : Nat} {Q : aQ} {r0 r1 : Option Nat} (k : Q none h n) : Rn d (bc) (bs) mX1_readName 22 [some (vR r0), some (vR r1)] [] h n Q := by
  exact Rn_return rfl dX1_readName_22 k
theorem BX1_readName_23 {d bc bs : Nat} {h : aH} {n : Nat} {Q : aQ} {ar0 ar1 : Nat} {f1 f5 : List aV} {v3 : Int} (h2 : h ar1 = cO 9 f1) (g4 : f1[2]? = some (vI v3)) (h6 : h ar0 = cO 1 f5) (k : Rn d 0 0 mX1_addSign 0 [some (vR (some ar0)), some (vI v3), some (vI 0), none] [] h n (fun v h1 n1 => Rn (d + 1) bc bs mX1_readName 32 [some (vR (some ar0)), some (vR (some ar1))] (v.toList ++ []) h1 n1 Q)) : Rn (d + 1) (bc) (bs) mX1_readName 23 [some (vR (some ar0)), some (vR (some ar1))] [] h n Q := by
  refine Rn_aload_n dX1_readName_23 rfl rfl rfl ?_
  refine Rn_aload_n dX1_readName_24 rfl rfl rfl ?_
  refine Rn_getfield (ci := 9) (k := 2) dX1_readName_25 rfl in_9 (Nat.le_of_ble_eq_true rfl) wd_330 rfl h2 g4 ?_
  refine Rn_iconst dX1_readName_28 rfl ?_
  exact Rn_callV (ci := 1) (avs := [vI v3, vI 0]) (st := []) (bc1 := 0) (bs1 := 0) (bc2 := bc) (bs2 := bs) fx_X1_addSign dX1_readName_29 wd_658 wd_660 wd_12 rfl h6 rfl (Nat.le_of_ble_eq_true rfl) (Nat.le_of_ble_eq_true rfl) (by omega) (by omega) (ls1 := [some (vR (some ar0)), some (vI v3), some (vI 0), none]) rfl k
theorem BX1_readName_32 {d bc bs : Nat} {h : aH} {n : Nat} {Q : aQ} {r0 : Option Nat} {ar1 : Nat} {s0 : Int} {f1 : List aV} (h2 : h ar1 = cO 9 f1) (k : Rn d 0 0 mX9_comeToNext 0 [some (vR (some ar1)), none] [] h n (fun v h1 n1 => Rn (d + 1) bc bs mX1_readName 37 [some (vR r0), some (vR (some ar1))] (v.toList ++ []) h1 n1 Q)) : Rn (d + 1) (bc) (bs) mX1_readName 32 [some (vR r0), some (vR (some ar1))] [vI s0] h n Q := by
  refine Rn_pop dX1_readName_32 rfl ?_
  refine Rn_aload_n dX1_readName_33 rfl rfl rfl ?_
  exact Rn_callV (ci := 9) (avs := []) (st := []) (bc1 := 0) (bs1 := 0) (bc2 := bc) (bs2 := bs) fx_X9_comeToNext dX1_readName_34 wd_641 wd_544 wd_545 rfl h2 rfl (Nat.le_of_ble_eq_true rfl) (Nat.le_of_ble_eq_true rfl) (by omega) (by omega) (ls1 := [some (vR (some ar1)), none]) rfl k
theorem BX1_readName_37 {d bc bs : Nat} {h : aH} {n : Nat} {Q : aQ} {r0 r1 : Option Nat} (k : Q none h n) : Rn d (bc) (bs) mX1_readName 37 [some (vR r0), some (vR r1)] [] h n Q := by
  exact Rn_return rfl dX1_readName_37 k
theorem dX1_readOpened_0 : decode cX1_readOpened 0 = .ok (.aload_n 1, 1) := by decide +kernel
theorem dX1_readOpened_1 : decode cX1_readOpened 1 = .ok (.getfield 44, 3) := by decide +kernel
theorem dX1_readOpened_4 : decode cX1_readOpened 4 = .ok (.istore_n 2, 1) := by decide +kernel
theorem dX1_readOpened_5 : decode cX1_readOpened 5 = .ok (.aload_n 1, 1) := by decide +kernel
theorem dX1_readOpened_6 : decode cX1_readOpened 6 = .ok (.invokevirtual 77, 3) := by decide +kernel
theorem dX1_readOpened_9 : decode cX1_readOpened 9 = .ok (.iload_n 2, 1) := by decide +kernel
theorem dX1_readOpened_10 : decode cX1_readOpened 10 = .ok (.lookupswitch 109 #[(10, 93), (13, 42), (32, 57), (35, 85)], 42) := by decide +kernel
theorem dX1_readOpened_52 : decode cX1_readOpened 52 = .ok (.aload_n 0, 1) := by decide +kernel
theorem dX1_readOpened_53 : decode cX1_readOpened 53 = .ok (.aload_n 1, 1) := by decide +kernel
theorem dX1_readOpened_54 : decode cX1_readOpened 54 = .ok (.invokevirtual 95, 3) := by decide +kernel
theorem dX1_readOpened_57 : decode cX1_readOpened 57 = .ok (.aload_n 0, 1) := by decide +kernel
theorem dX1_readOpened_58 : decode cX1_readOpened 58 = .ok (.aload_n 1, 1) := by decide +kernel
theorem dX1_readOpened_59 : decode cX1_readOpened 59 = .ok (.bipush 14, 2) := by decide +kernel
theorem dX1_readOpened_61 : decode cX1_readOpened 61 = .ok (.invokevirtual 104, 3) := by decide +kernel
theorem dX1_readOpened_64 : decode cX1_readOpened 64 = .ok (.goto 67, 3) := by decide +kernel
theorem dX1_readOpened_67 : decode cX1_readOpened 67 = .ok (.aload_n 0, 1) := by decide +kernel
theorem dX1_readOpened_68 : decode cX1_readOpened 68 = .ok (.aload_n 1, 1) := by decide +kernel
theorem dX1_readOpened_69 : decode cX1_readOpened 69 = .ok (.invokevirtual 133, 3) := by decide +kernel
theorem dX1_readOpened_72 : decode cX1_readOpened 72 = .ok (.aload_n 0, 1) := by decide +kernel
theorem dX1_readOpened_73 : decode cX1_readOpened 73 = .ok (.aload_n 1, 1) := by decide +kernel
theorem dX1_readOpened_74 : decode cX1_readOpened 74 = .ok (.bipush 33, 2) := by decide +kernel
theorem dX1_readOpened_76 : decode cX1_readOpened 76 = .ok (.invokevirtual 104, 3) := by decide +kernel
theorem dX1_readOpened_79 : decode cX1_readOpened 79 = .ok (.aload_n 0, 1) := by decide +kernel
theorem dX1_readOpened_80 : decode cX1_readOpened 80 = .ok (.aload_n 1, 1) := by decide +kernel
theorem dX1_readOpened_81 : decode cX1_readOpened 81 = .ok (.invokevirtual 133, 3) := by decide +kernel
theorem dX1_readOpened_84 : decode cX1_readOpened 84 = .ok (.aload_n 0, 1) := by decide +kernel
theorem dX1_readOpened_85 : decode cX1_readOpened 85 = .ok (.bipush 32, 2) := by decide +kernel
theorem dX1_readOpened_87 : decode cX1_readOpened 87 = .ok (.iconst 0, 1) := by decide +kernel
theorem dX1_readOpened_88 : decode cX1_readOpened 88 = .ok (.invokevirtual 130, 3) := by decide +kernel
theorem dX1_readOpened_91 : decode cX1_readOpened 91 = .ok (.pop, 1) := by decide +kernel
theorem dX1_readOpened_92 : decode cX1_readOpened 92 = .ok (.goto 39, 3) := by decide +kernel
theorem dX1_readOpened_95 : decode cX1_readOpened 95 = .ok (.aload_n 0, 1) := by decide +kernel
theorem dX1_readOpened_96 : decode cX1_readOpened 96 = .ok (.aload_n 1, 1) := by decide +kernel
theorem dX1_readOpened_97 : decode cX1_readOpened 97 = .ok (.invokevirtual 149, 3) := by decide +kernel
theorem dX1_readOpened_100 : decode cX1_readOpened 100 = .ok (.goto 31, 3) := by decide +kernel
theorem dX1_readOpened_103 : decode cX1_readOpened 103 = .ok (.aload_n 0, 1) := by decide +kernel
theorem dX1_readOpened_104 : decode cX1_readOpened 104 = .ok (.aload_n 1, 1) := by decide +kernel
theorem dX1_readOpened_105 : decode cX1_readOpened 105 = .ok (.invokevirtual 133, 3) := by decide +kernel
theorem dX1_readOpened_108 : decode cX1_readOpened 108 = .ok (.aload_n 0, 1) := by decide +kernel
theorem dX1_readOpened_109 : decode cX1_readOpened 109 = .ok (.bipush 50, 2) := by decide +kernel
theorem dX1_readOpened_111 : decode cX1_readOpened 111 = .ok (.iconst 0, 1) := by decide +kernel
theorem dX1_readOpened_112 : decode cX1_readOpened 112 = .ok (.invokevirtual 130, 3) := by decide +kernel
theorem dX1_readOpened_115 : decode cX1_readOpened 115 = .ok (.pop, 1) := by decide +kernel
theorem dX1_readOpened_116 : decode cX1_readOpened 116 = .ok (.goto 15, 3) := by decide +kernel
theorem dX1_readOpened_119 : decode cX1_readOpened 119 = .ok (.aload_n 0, 1) := by decide +kernel
theorem dX1_readOpened_120 : decode cX1_readOpened 120 = .ok (.aload_n 1, 1) := by decide +kernel
theorem dX1_readOpened_121 : decode cX1_readOpened 121 = .ok (.invokevirtual 133, 3) := by decide +kernel
theorem dX1_readOpened_124 : decode cX1_readOpened 124 = .ok (.aload_n 0, 1) := by decide +kernel
theorem dX1_readOpened_125 : decode cX1_readOpened 125 = .ok (.iload_n 2, 1) := by decide +kernel
theorem dX1_readOpened_126 : decode cX1_readOpened 126 = .ok (.iconst 0, 1) := by decide +kernel
theorem dX1_readOpened_127 : decode cX1_readOpened 127 = .ok (.invokevirtual 130, 3) := by decide +kernel
theorem dX1_readOpened_130 : decode cX1_readOpened 130 = .ok (.pop, 1) := by decide +kernel
theorem dX1_readOpened_131 : decode cX1_readOpened 131 = .ok (.return_, 1) := by decide +kernel
theorem BX1_readOpened_0 {d bc bs : Nat} {h : aH} {n : Nat} {Q : aQ} {r0 : Option Nat} {ar1 : Nat} {l2 : Option aV} {f1 : List aV} {v3 : Int} (h2 : h ar1 = cO 9 f1) (g4 : f1[2]? = some (vI v3)) (k : Rn d 0 0 mX9_comeToNext 0 [some (vR (some ar1)), none] [] h n (fun v h1 n1 => Rn (d + 1) bc bs mX1_readOpened 9 [some (vR r0), some (vR (some ar1)), some (vI v3)] (v.toList ++ []) h1 n1 Q)) : Rn (d + 1) (bc) (bs) mX1_readOpened 0 [some (vR r0), some (vR (some ar1)), l2] [] h n Q := by
  refine Rn_aload_n dX1_readOpened_0 rfl rfl rfl ?_
  refine Rn_getfield (ci := 9) (k := 2) dX1_readOpened_1 rfl in_9 (Nat.le_of_ble_eq_true rfl) wd_330 rfl h2 g4 ?_
  refine Rn_istore_n dX1_readOpened_4 rfl (Nat.le_of_ble_eq_true rfl) rfl rfl ?_
  refine Rn_aload_n dX1_readOpened_5 rfl rfl rfl ?_
  exact Rn_callV (ci := 9) (avs := []) (st := []) (bc1 := 0) (bs1 := 0) (bc2 := bc) (bs2 := bs) fx_X9_comeToNext dX1_readOpened_6 wd_641 wd_544 wd_545 rfl h2 rfl (Nat.le_of_ble_eq_true rfl) (Nat.le_of_ble_eq_true rfl) (by omega) (by omega) (ls1 := [some (vR (some ar1)), none]) rfl k
theorem BX1_readOpened_9 {d bc bs : Nat} {h : aH} {n : Nat} {Q : aQ} {r0 r1 : Option Nat} {x2 : Int} (kd : (x2 ≠ 10 ∧ x2 ≠ 13 ∧ x2 ≠ 32 ∧ x2 ≠ 35) → Rn d bc bs mX1_readOpened 119 [some (vR r0), some (vR r1), some (vI x2)] [] h n Q) (k10 : x2 = 10 → Rn d bc bs mX1_readOpened 103 [some (vR r0), some (vR r1), some (vI x2)] [] h n Q) (k13 : x2 = 13 → Rn d bc bs mX1_readOpened 52 [some (vR r0), some (vR r1), some (vI x2)] [] h n Q) (k32 : x2 = 32 → Rn d bc bs mX1_readOpened 67 [some (vR r0), some (vR r1), some (vI x2)] [] h n Q) (k35 : x2 = 35 → Rn d bc bs mX1_readOpened 95 [some (vR r0), some (vR r1), some (vI x2)] [] h n Q) : Rn d (bc) (bs) mX1_readOpened 9 [some (vR r0), some (vR r1), some (vI x2)] [] h n Q := by
  refine Rn_iload_n dX1_readOpened_9 rfl rfl ?_
  by_cases hz10 : x2 = 10
  · exact Rn_lookup (tgt := 103) dX1_readOpened_10 rfl (by rw [hz10] <;> rfl) rfl (k10 hz10)
  by_cases hz13 : x2 = 13
  · exact Rn_lookup (tgt := 52) dX1_readOpened_10 rfl (by rw [hz13] <;> rfl) rfl (k13 hz13)
  by_cases hz32 : x2 = 32
  · exact Rn_lookup (tgt := 67) dX1_readOpened_10 rfl (by rw [hz32] <;> rfl) rfl (k32 hz32)
  by_cases hz35 : x2 = 35
  · exact Rn_lookup (tgt := 95) dX1_readOpened_10 rfl (by rw [hz35] <;> rfl) rfl (k35 hz35)
  exact Rn_lookup (off := 109) (tgt := 119) dX1_readOpened_10 rfl (by simp [Op.lookupswitch.offset, Ne.symm hz10, Ne.symm hz13, Ne.symm hz32, Ne.symm hz35]) rfl (kd ⟨hz10, hz13, hz32, hz35⟩)
theorem BX1_readOpened_52 {d bc bs : Nat} {h : aH} {n : Nat} {Q : aQ} {ar0 : Nat} {r1 : Option Nat} {x2 : Int} {f1 : List aV} (h2 : h ar0 = cO 1 f1) (k : Rn d 0 0 mX1_readSum 0 [some (vR (some ar0)), some (vR r1), none, none] [] h n (fun v h1 n1 => Rn (d + 1) bc bs mX1_readOpened 57 [some (vR (some ar0)), some (vR r1), some (vI x2)] (v.toList ++ []) h1 n1 Q)) : Rn (d + 1) (bc) (bs) mX1_readOpened 52 [some (vR (some ar0)), some (vR r1), some (vI x2)] [] h n Q := by
  refine Rn_aload_n dX1_readOpened_52 rfl rfl rfl ?_
  refine Rn_aload_n dX1_readOpened_53 rfl rfl rfl ?_
  exact Rn_callV (ci := 1) (avs := [vR r1]) (st := []) (bc1 := 0) (bs1 := 0) (bc2 := bc) (bs2 := bs) fx_X1_readSum dX1_readOpened_54 wd_642 wd_644 wd_8 rfl h2 rfl (Nat.le_of_ble_eq_true rfl) (Nat.le_of_ble_eq_true rfl) (by omega) (by omega) (ls1 := [some (vR (some ar0)), some (vR r1), none, none]) rfl k
theorem BX1_readOpened_57 {d bc bs : Nat} {h : aH} {n : Nat} {Q : aQ} {ar0 : Nat} {r1 : Option Nat} {x2 : Int} {f1 : List aV} (h2 : h ar0 = cO 1 f1) (k : Rn d 0 0 mX1_want 0 [some (vR (some ar0)), some (vR r1), some (vI 14)] [] h n (fun v h1 n1 => Rn (d + 1) bc bs mX1_readOpened 64 [some (vR (some ar0)), some (vR r1), some (vI x2)] (v.toList ++ []) h1 n1 Q)) : Rn (d + 1) (bc) (bs) mX1_readOpened 57 [some (vR (some ar0)), some (vR r1), some (vI x2)] [] h n Q := by
  refine Rn_aload_n dX1_readOpened_57 rfl rfl rfl ?_
  refine Rn_aload_n dX1_readOpened_58 rfl rfl rfl ?_
  refine Rn_bipush dX1_readOpened_59 rfl ?_
  exact Rn_callV (ci := 1) (avs := [vR r1, vI 14]) (st := []) (bc1 := 0) (bs1 := 0) (bc2 := bc) (bs2 := bs) fx_X1_want dX1_readOpened_61 wd_676 wd_678 wd_15 rfl h2 rfl (Nat.le_of_ble_eq_true rfl) (Nat.le_of_ble_eq_true rfl) (by omega) (by omega) (ls1 := [some (vR (some ar0)), some (vR r1), some (vI 14)]) rfl k
theorem BX1_readOpened_64 {d bc bs : Nat} {h : aH} {n : Nat} {Q : aQ} {r0 r1 : Option Nat} {x2 : Int} (k : Q none h n) : Rn d (bc) (bs) mX1_readOpened 64 [some (vR r0), some (vR r1), some (vI x2)] [] h n Q := by
  refine Rn_goto (tgt := 131) dX1_readOpened_64 rfl ?_
  exact Rn_return rfl dX1_readOpened_131 k
theorem BX1_readOpened_67 {d bc bs : Nat} {h : aH} {n : Nat} {Q : aQ} {ar0 : Nat} {r1 : Option Nat} {x2 : Int} {f1 : List aV} (h2 : h ar0 = cO 1 f1) (k : Rn d 0 0 mX1_readOne 0 [some (vR (some ar0)), some (vR r1)] [] h n (fun v h1 n1 => Rn (d + 1) bc bs mX1_readOpened 72 [some (vR (some ar0)), some (vR r1), some (vI x2)] (v.toList ++ []) h1 n1 Q)) : Rn (d + 1) (bc) (bs) mX1_readOpened 67 [some (vR (some ar0)), some (vR r1), some (vI x2)] [] h n Q := by
  refine Rn_aload_n dX1_readOpened_67 rfl rfl rfl ?_
  refine Rn_aload_n dX1_readOpened_68 rfl rfl rfl ?_
  exact Rn_callV (ci := 1) (avs := [vR r1]) (st := []) (bc1 := 0) (bs1 := 0) (bc2 := bc) (bs2 := bs) fx_X1_readOne dX1_readOpened_69 wd_650 wd_652 wd_10 rfl h2 rfl (Nat.le_of_ble_eq_true rfl) (Nat.le_of_ble_eq_true rfl) (by omega) (by omega) (ls1 := [some (vR (some ar0)), some (vR r1)]) rfl k
theorem BX1_readOpened_72 {d bc bs : Nat} {h : aH} {n : Nat} {Q : aQ} {ar0 : Nat} {r1 : Option Nat} {x2 : Int} {f1 : List aV} (h2 : h ar0 = cO 1 f1) (k : Rn d 0 0 mX1_want 0 [some (vR (some ar0)), some (vR r1), some (vI 33)] [] h n (fun v h1 n1 => Rn (d + 1) bc bs mX1_readOpened 79 [some (vR (some ar0)), some (vR r1), some (vI x2)] (v.toList ++ []) h1 n1 Q)) : Rn (d + 1) (bc) (bs) mX1_readOpened 72 [some (vR (some ar0)), some (vR r1), some (vI x2)] [] h n Q := by
  refine Rn_aload_n dX1_readOpened_72 rfl rfl rfl ?_
  refine Rn_aload_n dX1_readOpened_73 rfl rfl rfl ?_
  refine Rn_bipush dX1_readOpened_74 rfl ?_
  exact Rn_callV (ci := 1) (avs := [vR r1, vI 33]) (st := []) (bc1 := 0) (bs1 := 0) (bc2 := bc) (bs2 := bs) fx_X1_want dX1_readOpened_76 wd_676 wd_678 wd_15 rfl h2 rfl (Nat.le_of_ble_eq_true rfl) (Nat.le_of_ble_eq_true rfl) (by omega) (by omega) (ls1 := [some (vR (some ar0)), some (vR r1), some (vI 33)]) rfl k
theorem BX1_readOpened_79 {d bc bs : Nat} {h : aH} {n : Nat} {Q : aQ} {ar0 : Nat} {r1 : Option Nat} {x2 : Int} {f1 : List aV} (h2 : h ar0 = cO 1 f1) (k : Rn d 0 0 mX1_readOne 0 [some (vR (some ar0)), some (vR r1)] [] h n (fun v h1 n1 => Rn (d + 1) bc bs mX1_readOpened 84 [some (vR (some ar0)), some (vR r1), some (vI x2)] (v.toList ++ []) h1 n1 Q)) : Rn (d + 1) (bc) (bs) mX1_readOpened 79 [some (vR (some ar0)), some (vR r1), some (vI x2)] [] h n Q := by
  refine Rn_aload_n dX1_readOpened_79 rfl rfl rfl ?_
  refine Rn_aload_n dX1_readOpened_80 rfl rfl rfl ?_
  exact Rn_callV (ci := 1) (avs := [vR r1]) (st := []) (bc1 := 0) (bs1 := 0) (bc2 := bc) (bs2 := bs) fx_X1_readOne dX1_readOpened_81 wd_650 wd_652 wd_10 rfl h2 rfl (Nat.le_of_ble_eq_true rfl) (Nat.le_of_ble_eq_true rfl) (by omega) (by omega) (ls1 := [some (vR (some ar0)), some (vR r1)]) rfl k
theorem BX1_readOpened_84 {d bc bs : Nat} {h : aH} {n : Nat} {Q : aQ} {ar0 : Nat} {r1 : Option Nat} {x2 : Int} {f1 : List aV} (h2 : h ar0 = cO 1 f1) (k : Rn d 0 0 mX1_addSign 0 [some (vR (some ar0)), some (vI 32), some (vI 0), none] [] h n (fun v h1 n1 => Rn (d + 1) bc bs mX1_readOpened 91 [some (vR (some ar0)), some (vR r1), some (vI x2)] (v.toList ++ []) h1 n1 Q)) : Rn (d + 1) (bc) (bs) mX1_readOpened 84 [some (vR (some ar0)), some (vR r1), some (vI x2)] [] h n Q := by
  refine Rn_aload_n dX1_readOpened_84 rfl rfl rfl ?_
  refine Rn_bipush dX1_readOpened_85 rfl ?_
  refine Rn_iconst dX1_readOpened_87 rfl ?_
  exact Rn_callV (ci := 1) (avs := [vI 32, vI 0]) (st := []) (bc1 := 0) (bs1 := 0) (bc2 := bc) (bs2 := bs) fx_X1_addSign dX1_readOpened_88 wd_658 wd_660 wd_12 rfl h2 rfl (Nat.le_of_ble_eq_true rfl) (Nat.le_of_ble_eq_true rfl) (by omega) (by omega) (ls1 := [some (vR (some ar0)), some (vI 32), some (vI 0), none]) rfl k
theorem BX1_readOpened_91 {d bc bs : Nat} {h : aH} {n : Nat} {Q : aQ} {r0 r1 : Option Nat} {x2 s0 : Int} (k : Q none h n) : Rn d (bc) (bs) mX1_readOpened 91 [some (vR r0), some (vR r1), some (vI x2)] [vI s0] h n Q := by
  refine Rn_pop dX1_readOpened_91 rfl ?_
  refine Rn_goto (tgt := 131) dX1_readOpened_92 rfl ?_
  exact Rn_return rfl dX1_readOpened_131 k
theorem BX1_readOpened_95 {d bc bs : Nat} {h : aH} {n : Nat} {Q : aQ} {ar0 : Nat} {r1 : Option Nat} {x2 : Int} {f1 : List aV} (h2 : h ar0 = cO 1 f1) (k : Rn d 0 0 mX1_readIf 0 [some (vR (some ar0)), some (vR r1), none, none] [] h n (fun v h1 n1 => Rn (d + 1) bc bs mX1_readOpened 100 [some (vR (some ar0)), some (vR r1), some (vI x2)] (v.toList ++ []) h1 n1 Q)) : Rn (d + 1) (bc) (bs) mX1_readOpened 95 [some (vR (some ar0)), some (vR r1), some (vI x2)] [] h n Q := by
  refine Rn_aload_n dX1_readOpened_95 rfl rfl rfl ?_
  refine Rn_aload_n dX1_readOpened_96 rfl rfl rfl ?_
  exact Rn_callV (ci := 1) (avs := [vR r1]) (st := []) (bc1 := 0) (bs1 := 0) (bc2 := bc) (bs2 := bs) fx_X1_readIf dX1_readOpened_97 wd_684 wd_686 wd_17 rfl h2 rfl (Nat.le_of_ble_eq_true rfl) (Nat.le_of_ble_eq_true rfl) (by omega) (by omega) (ls1 := [some (vR (some ar0)), some (vR r1), none, none]) rfl k
theorem BX1_readOpened_100 {d bc bs : Nat} {h : aH} {n : Nat} {Q : aQ} {r0 r1 : Option Nat} {x2 : Int} (k : Q none h n) : Rn d (bc) (bs) mX1_readOpened 100 [some (vR r0), some (vR r1), some (vI x2)] [] h n Q := by
  refine Rn_goto (tgt := 131) dX1_readOpened_100 rfl ?_
  exact Rn_return rfl dX1_readOpened_131 k
theorem BX1_readOpened_103 {d bc bs : Nat} {h : aH} {n : Nat} {Q : aQ} {ar0 : Nat} {r1 : Option Nat} {x2 : Int} {f1 : List aV} (h2 : h ar0 = cO 1 f1) (k : Rn d 0 0 mX1_readOne 0 [some (vR (some ar0)), some (vR r1)] [] h n (fun v h1 n1 => Rn (d + 1) bc bs mX1_readOpened 108 [some (vR (some ar0)), some (vR r1), some (vI x2)] (v.toList ++ []) h1 n1 Q)) : Rn (d + 1) (bc) (bs) mX1_readOpened 103 [some (vR (some ar0)), some (vR r1), some (vI x2)] [] h n Q := by
  refine Rn_aload_n dX1_readOpened_103 rfl rfl rfl ?_
  refine Rn_aload_n dX1_readOpened_104 rfl rfl rfl ?_
  exact Rn_callV (ci := 1) (avs := [vR r1]) (st := []) (bc1 := 0) (bs1 := 0) (bc2 := bc) (bs2 := bs) fx_X1_readOne dX1_readOpened_105 wd_650 wd_652 wd_10 rfl h2 rfl (Nat.le_of_ble_eq_true rfl) (Nat.le_of_ble_eq_true rfl) (by omega) (by omega) (ls1 := [some (vR (some ar0)), some (vR r1)]) rfl k
theorem BX1_readOpened_108 {d bc bs : Nat} {h : aH} {n : Nat} {Q : aQ} {ar0 : Nat} {r1 : Option Nat} {x2 : Int} {f1 : List aV} (h2 : h ar0 = cO 1 f1) (k : Rn d 0 0 mX1_addSign 0 [some (vR (some ar0)), some (vI 50), some (vI 0), none] [] h n (fun v h1 n1 => Rn (d + 1) bc bs mX1_readOpened 115 [some (vR (some ar0)), some (vR r1), some (vI x2)] (v.toList ++ []) h1 n1 Q)) : Rn (d + 1) (bc) (bs) mX1_readOpened 108 [some (vR (some ar0)), some (vR r1), some (vI x2)] [] h n Q := by
  refine Rn_aload_n dX1_readOpened_108 rfl rfl rfl ?_
  refine Rn_bipush dX1_readOpened_109 rfl ?_
  refine Rn_iconst dX1_readOpened_111 rfl ?_
  exact Rn_callV (ci := 1) (avs := [vI 50, vI 0]) (st := []) (bc1 := 0) (bs1 := 0) (bc2 := bc) (bs2 := bs) fx_X1_addSign dX1_readOpened_112 wd_658 wd_660 wd_12 rfl h2 rfl (Nat.le_of_ble_eq_true rfl) (Nat.le_of_ble_eq_true rfl) (by omega) (by omega) (ls1 := [some (vR (some ar0)), some (vI 50), some (vI 0), none]) rfl k
theorem BX1_readOpened_115 {d bc bs : Nat} {h : aH} {n : Nat} {Q : aQ} {r0 r1 : Option Nat} {x2 s0 : Int} (k : Q none h n) : Rn d (bc) (bs) mX1_readOpened 115 [some (vR r0), some (vR r1), some (vI x2)] [vI s0] h n Q := by
  refine Rn_pop dX1_readOpened_115 rfl ?_
  refine Rn_goto (tgt := 131) dX1_readOpened_116 rfl ?_
  exact Rn_return rfl dX1_readOpened_131 k
theorem BX1_readOpened_119 {d bc bs : Nat} {h : aH} {n : Nat} {Q : aQ} {ar0 : Nat} {r1 : Option Nat} {x2 : Int} {f1 : List aV} (h2 : h ar0 = cO 1 f1) (k : Rn d 0 0 mX1_readOne 0 [some (vR (some ar0)), some (vR r1)] [] h n (fun v h1 n1 => Rn (d + 1) bc bs mX1_readOpened 124 [some (vR (some ar0)), some (vR r1), some (vI x2)] (v.toList ++ []) h1 n1 Q)) : Rn (d + 1) (bc) (bs) mX1_readOpened 119 [some (vR (some ar0)), some (vR r1), some (vI x2)] [] h n Q := by
  refine Rn_aload_n dX1_readOpened_119 rfl rfl rfl ?_
  refine Rn_aload_n dX1_readOpened_120 rfl rfl rfl ?_
  exact Rn_callV (ci := 1) (avs := [vR r1]) (st := []) (bc1 := 0) (bs1 := 0) (bc2 := bc) (bs2 := bs) fx_X1_readOne dX1_readOpened_121 wd_650 wd_652 wd_10 rfl h2 rfl (Nat.le_of_ble_eq_true rfl) (Nat.le_of_ble_eq_true rfl) (by omega) (by omega) (ls1 := [some (vR (some ar0)), some (vR r1)]) rfl k
theorem BX1_readOpened_124 {d bc bs : Nat} {h : aH} {n : Nat} {Q : aQ} {ar0 : Nat} {r1 : Option Nat} {x2 : Int} {f1 : List aV} (h2 : h ar0 = cO 1 f1) (k : Rn d 0 0 mX1_addSign 0 [some (vR (some ar0)), some (vI x2), some (vI 0), none] [] h n (fun v h1 n1 => Rn (d + 1) bc bs mX1_readOpened 130 [some (vR (some ar0)), some (vR r1), some (vI x2)] (v.toList ++ []) h1 n1 Q)) : Rn (d + 1) (bc) (bs) mX1_readOpened 124 [some (vR (some ar0)), some (vR r1), some (vI x2)] [] h n Q := by
  refine Rn_aload_n dX1_readOpened_124 rfl rfl rfl ?_
  refine Rn_iload_n dX1_readOpened_125 rfl rfl ?_
  refine Rn_iconst dX1_readOpened_126 rfl ?_
  exact Rn_callV (ci := 1) (avs := [vI x2, vI 0]) (st := []) (bc1 := 0) (bs1 := 0) (bc2 := bc) (bs2 := bs) fx_X1_addSign dX1_readOpened_127 wd_658 wd_660 wd_12 rfl h2 rfl (Nat.le_of_ble_eq_true rfl) (Nat.le_of_ble_eq_true rfl) (by omega) (by omega) (ls1 := [some (vR (some ar0)), some (vI x2), some (vI 0), none]) rfl k
theorem BX1_readOpened_130 {d bc bs : Nat} {h : aH} {n : Nat} {Q : aQ} {r0 r1 : Option Nat} {x2 s0 : Int} (k : Q none h n) : Rn d (bc) (bs) mX1_readOpened 130 [some (vR r0), some (vR r1), some (vI x2)] [vI s0] h n Q := by
  refine Rn_pop dX1_readOpened_130 rfl ?_
  exact Rn_return rfl dX1_readOpened_131 k
theorem dX1_readIf_0 : decode cX1_readIf 0 = .ok (.aload_n 0, 1) := by decide +kernel
theorem dX1_readIf_1 : decode cX1_readIf 1 = .ok (.aload_n 1, 1) := by decide +kernel
theorem dX1_readIf_2 : decode cX1_readIf 2 = .ok (.invokevirtual 152, 3) := by decide +kernel
theorem dX1_readIf_5 : decode cX1_readIf 5 = .ok (.aload_n 0, 1) := by decide +kernel
theorem dX1_readIf_6 : decode cX1_readIf 6 = .ok (.aload_n 1, 1) := by decide +kernel
theorem dX1_readIf_7 : decode cX1_readIf 7 = .ok (.bipush 36, 2) := by decide +kernel
theorem dX1_readIf_9 : decode cX1_readIf 9 = .ok (.invokevirtual 104, 3) := by decide +kernel
theorem dX1_readIf_12 : decode cX1_readIf 12 = .ok (.aload_n 0, 1) := by decide +kernel
theorem dX1_readIf_13 : decode cX1_readIf 13 = .ok (.bipush 52, 2) := by decide +kernel
theorem dX1_readIf_15 : decode cX1_readIf 15 = .ok (.iconst 0, 1) := by decide +kernel
theorem dX1_readIf_16 : decode cX1_readIf 16 = .ok (.invokevirtual 130, 3) := by decide +kernel
theorem dX1_readIf_19 : decode cX1_readIf 19 = .ok (.istore_n 2, 1) := by decide +kernel
theorem dX1_readIf_20 : decode cX1_readIf 20 = .ok (.aload_n 0, 1) := by decide +kernel
theorem dX1_readIf_21 : decode cX1_readIf 21 = .ok (.aload_n 1, 1) := by decide +kernel
theorem dX1_readIf_22 : decode cX1_readIf 22 = .ok (.invokevirtual 95, 3) := by decide +kernel
theorem dX1_readIf_25 : decode cX1_readIf 25 = .ok (.aload_n 0, 1) := by decide +kernel
theorem dX1_readIf_26 : decode cX1_readIf 26 = .ok (.aload_n 1, 1) := by decide +kernel
theorem dX1_readIf_27 : decode cX1_readIf 27 = .ok (.bipush 37, 2) := by decide +kernel
theorem dX1_readIf_29 : decode cX1_readIf 29 = .ok (.invokevirtual 104, 3) := by decide +kernel
theorem dX1_readIf_32 : decode cX1_readIf 32 = .ok (.aload_n 0, 1) := by decide +kernel
theorem dX1_readIf_33 : decode cX1_readIf 33 = .ok (.bipush 51, 2) := by decide +kernel
theorem dX1_readIf_35 : decode cX1_readIf 35 = .ok (.iconst 0, 1) := by decide +kernel
theorem dX1_readIf_36 : decode cX1_readIf 36 = .ok (.invokevirtual 130, 3) := by decide +kernel
theorem dX1_readIf_39 : decode cX1_readIf 39 = .ok (.istore_n 3, 1) := by decide +kernel
theorem dX1_readIf_40 : decode cX1_readIf 40 = .ok (.aload_n 0, 1) := by decide +kernel
theorem dX1_readIf_41 : decode cX1_readIf 41 = .ok (.iload_n 2, 1) := by decide +kernel
theorem dX1_readIf_42 : decode cX1_readIf 42 = .ok (.bipush 52, 2) := by decide +kernel
theorem dX1_readIf_44 : decode cX1_readIf 44 = .ok (.invokevirtual 155, 3) := by decide +kernel
theorem dX1_readIf_47 : decode cX1_readIf 47 = .ok (.aload_n 0, 1) := by decide +kernel
theorem dX1_readIf_48 : decode cX1_readIf 48 = .ok (.aload_n 1, 1) := by decide +kernel
theorem dX1_readIf_49 : decode cX1_readIf 49 = .ok (.invokevirtual 95, 3) := by decide +kernel
theorem dX1_readIf_52 : decode cX1_readIf 52 = .ok (.aload_n 0, 1) := by decide +kernel
theorem dX1_readIf_53 : decode cX1_readIf 53 = .ok (.aload_n 1, 1) := by decide +kernel
theorem dX1_readIf_54 : decode cX1_readIf 54 = .ok (.bipush 38, 2) := by decide +kernel
theorem dX1_readIf_56 : decode cX1_readIf 56 = .ok (.invokevirtual 104, 3) := by decide +kernel
theorem dX1_readIf_59 : decode cX1_readIf 59 = .ok (.aload_n 0, 1) := by decide +kernel
theorem dX1_readIf_60 : decode cX1_readIf 60 = .ok (.iload_n 3, 1) := by decide +kernel
theorem dX1_readIf_61 : decode cX1_readIf 61 = .ok (.bipush 51, 2) := by decide +kernel
theorem dX1_readIf_63 : decode cX1_readIf 63 = .ok (.invokevirtual 155, 3) := by decide +kernel
theorem dX1_readIf_66 : decode cX1_readIf 66 = .ok (.return_, 1) := by decide +kernel
theorem BX1_readIf_0 {d bc bs : Nat} {h : aH} {n : Nat} {Q : aQ} {ar0 : Nat} {r1 : Option Nat} {l2 l3 : Option aV} {f1 : List aV} (h2 : h ar0 = cO 1 f1) (k : Rn d 0 0 mX1_readEither 0 [some (vR (some ar0)), some (vR r1), none] [] h n (fun v h1 n1 => Rn (d + 1) bc bs mX1_readIf 5 [some (vR (some ar0)), some (vR r1), l2, l3] (v.toList ++ []) h1 n1 Q)) : Rn (d + 1) (bc) (bs) mX1_readIf 0 [some (vR (some ar0)), some (vR r1), l2, l3] [] h n Q := by
  refine Rn_aload_n dX1_readIf_0 rfl rfl rfl ?_
  refine Rn_aload_n dX1_readIf_1 rfl rfl rfl ?_
  exact Rn_callV (ci := 1) (avs := [vR r1]) (st := []) (bc1 := 0) (bs1 := 0) (bc2 := bc) (bs2 := bs) fx_X1_readEither dX1_readIf_2 wd_688 wd_690 wd_18 rfl h2 rfl (Nat.le_of_ble_eq_true rfl) (Nat.le_of_ble_eq_true rfl) (by omega) (by omega) (ls1 := [some (vR (some ar0)), some (vR r1), none]) rfl k
theorem BX1_readIf_5 {d bc bs : Nat} {h : aH} {n : Nat} {Q : aQ} {ar0 : Nat} {r1 : Option Nat} {l2 l3 : Option aV} {f1 : List aV} (h2 : h ar0 = cO 1 f1) (k : Rn d 0 0 mX1_want 0 [some (vR (some ar0)), some (vR r1), some (vI 36)] [] h n (fun v h1 n1 => Rn (d + 1) bc bs mX1_readIf 12 [some (vR (some ar0)), some (vR r1), l2, l3] (v.toList ++ []) h1 n1 Q)) : Rn (d + 1) (bc) (bs) mX1_readIf 5 [some (vR (some ar0)), some (vR r1), l2, l3] [] h n Q := by
  refine Rn_aload_n dX1_readIf_5 rfl rfl rfl ?_
  refine Rn_aload_n dX1_readIf_6 rfl rfl rfl ?_
  refine Rn_bipush dX1_readIf_7 rfl ?_
  exact Rn_callV (ci := 1) (avs := [vR r1, vI 36]) (st := []) (bc1 := 0) (bs1 := 0) (bc2 := bc) (bs2 := bs) fx_X1_want dX1_readIf_9 wd_676 wd_678 wd_15 rfl h2 rfl (Nat.le_of_ble_eq_true rfl) (Nat.le_of_ble_eq_true rfl) (by omega) (by omega) (ls1 := [some (vR (some ar0)), some (vR r1), some (vI 36)]) rfl k
theorem BX1_readIf_12 {d bc bs : Nat} {h : aH} {n : Nat} {Q : aQ} {ar0 : Nat} {r1 : Option Nat} {l2 l3 : Option aV} {f1 : List aV} (h2 : h ar0 = cO 1 f1) (k : Rn d 0 0 mX1_addSign 0 [some (vR (some ar0)), some (vI 52), some (vI 0), none] [] h n (fun v h1 n1 => Rn (d + 1) bc bs mX1_readIf 19 [some (vR (some ar0)), some (vR r1), l2, l3] (v.toList ++ []) h1 n1 Q)) : Rn (d + 1) (bc) (bs) mX1_readIf 12 [some (vR (some ar0)), some (vR r1), l2, l3] [] h n Q := by
  refine Rn_aload_n dX1_readIf_12 rfl rfl rfl ?_
  refine Rn_bipush dX1_readIf_13 rfl ?_
  refine Rn_iconst dX1_readIf_15 rfl ?_
  exact Rn_callV (ci := 1) (avs := [vI 52, vI 0]) (st := []) (bc1 := 0) (bs1 := 0) (bc2 := bc) (bs2 := bs) fx_X1_addSign dX1_readIf_16 wd_658 wd_660 wd_12 rfl h2 rfl (Nat.le_of_ble_eq_true rfl) (Nat.le_of_ble_eq_true rfl) (by omega) (by omega) (ls1 := [some (vR (some ar0)), some (vI 52), some (vI 0), none]) rfl k
theorem BX1_readIf_19 {d bc bs : Nat} {h : aH} {n : Nat} {Q : aQ} {ar0 : Nat} {r1 : Option Nat} {l2 l3 : Option aV} {s0 : Int} {f1 : List aV} (h2 : h ar0 = cO 1 f1) (k : Rn d 0 0 mX1_readSum 0 [some (vR (some ar0)), some (vR r1), none, none] [] h n (fun v h1 n1 => Rn (d + 1) bc bs mX1_readIf 25 [some (vR (some ar0)), some (vR r1), some (vI s0), l3] (v.toList ++ []) h1 n1 Q)) : Rn (d + 1) (bc) (bs) mX1_readIf 19 [some (vR (some ar0)), some (vR r1), l2, l3] [vI s0] h n Q := by
  refine Rn_istore_n dX1_readIf_19 rfl (Nat.le_of_ble_eq_true rfl) rfl rfl ?_
  refine Rn_aload_n dX1_readIf_20 rfl rfl rfl ?_
  refine Rn_aload_n dX1_readIf_21 rfl rfl rfl ?_
  exact Rn_callV (ci := 1) (avs := [vR r1]) (st := []) (bc1 := 0) (bs1 := 0) (bc2 := bc) (bs2 := bs) fx_X1_readSum dX1_readIf_22 wd_642 wd_644 wd_8 rfl h2 rfl (Nat.le_of_ble_eq_true rfl) (Nat.le_of_ble_eq_true rfl) (by omega) (by omega) (ls1 := [some (vR (some ar0)), some (vR r1), none, none]) rfl k
theorem BX1_readIf_25 {d bc bs : Nat} {h : aH} {n : Nat} {Q : aQ} {ar0 : Nat} {r1 : Option Nat} {x2 : Int} {l3 : Option aV} {f1 : List aV} (h2 : h ar0 = cO 1 f1) (k : Rn d 0 0 mX1_want 0 [some (vR (some ar0)), some (vR r1), some (vI 37)] [] h n (fun v h1 n1 => Rn (d + 1) bc bs mX1_readIf 32 [some (vR (some ar0)), some (vR r1), some (vI x2), l3] (v.toList ++ []) h1 n1 Q)) : Rn (d + 1) (bc) (bs) mX1_readIf 25 [some (vR (some ar0)), some (vR r1), some (vI x2), l3] [] h n Q := by
  refine Rn_aload_n dX1_readIf_25 rfl rfl rfl ?_
  refine Rn_aload_n dX1_readIf_26 rfl rfl rfl ?_
  refine Rn_bipush dX1_readIf_27 rfl ?_
  exact Rn_callV (ci := 1) (avs := [vR r1, vI 37]) (st := []) (bc1 := 0) (bs1 := 0) (bc2 := bc) (bs2 := bs) fx_X1_want dX1_readIf_29 wd_676 wd_678 wd_15 rfl h2 rfl (Nat.le_of_ble_eq_true rfl) (Nat.le_of_ble_eq_true rfl) (by omega) (by omega) (ls1 := [some (vR (some ar0)), some (vR r1), some (vI 37)]) rfl k
theorem BX1_readIf_32 {d bc bs : Nat} {h : aH} {n : Nat} {Q : aQ} {ar0 : Nat} {r1 : Option Nat} {x2 : Int} {l3 : Option aV} {f1 : List aV} (h2 : h ar0 = cO 1 f1) (k : Rn d 0 0 mX1_addSign 0 [some (vR (some ar0)), some (vI 51), some (vI 0), none] [] h n (fun v h1 n1 => Rn (d + 1) bc bs mX1_readIf 39 [some (vR (some ar0)), some (vR r1), some (vI x2), l3] (v.toList ++ []) h1 n1 Q)) : Rn (d + 1) (bc) (bs) mX1_readIf 32 [some (vR (some ar0)), some (vR r1), some (vI x2), l3] [] h n Q := by
  refine Rn_aload_n dX1_readIf_32 rfl rfl rfl ?_
  refine Rn_bipush dX1_readIf_33 rfl ?_
  refine Rn_iconst dX1_readIf_35 rfl ?_
  exact Rn_callV (ci := 1) (avs := [vI 51, vI 0]) (st := []) (bc1 := 0) (bs1 := 0) (bc2 := bc) (bs2 := bs) fx_X1_addSign dX1_readIf_36 wd_658 wd_660 wd_12 rfl h2 rfl (Nat.le_of_ble_eq_true rfl) (Nat.le_of_ble_eq_true rfl) (by omega) (by omega) (ls1 := [some (vR (some ar0)), some (vI 51), some (vI 0), none]) rfl k
theorem BX1_readIf_39 {d bc bs : Nat} {h : aH} {n : Nat} {Q : aQ} {ar0 : Nat} {r1 : Option Nat} {x2 s0 : Int} {l3 : Option aV} {f1 : List aV} (h2 : h ar0 = cO 1 f1) (k : Rn d 0 0 mX1_leadHere 0 [some (vR (some ar0)), some (vI x2), some (vI 52)] [] h n (fun v h1 n1 => Rn (d + 1) bc bs mX1_readIf 47 [some (vR (some ar0)), some (vR r1), some (vI x2), some (vI s0)] (v.toList ++ []) h1 n1 Q)) : Rn (d + 1) (bc) (bs) mX1_readIf 39 [some (vR (some ar0)), some (vR r1), some (vI x2), l3] [vI s0] h n Q := by
  refine Rn_istore_n dX1_readIf_39 rfl (Nat.le_of_ble_eq_true rfl) rfl rfl ?_
  refine Rn_aload_n dX1_readIf_40 rfl rfl rfl ?_
  refine Rn_iload_n dX1_readIf_41 rfl rfl ?_
  refine Rn_bipush dX1_readIf_42 rfl ?_
  exact Rn_callV (ci := 1) (avs := [vI x2, vI 52]) (st := []) (bc1 := 0) (bs1 := 0) (bc2 := bc) (bs2 := bs) fx_X1_leadHere dX1_readIf_44 wd_708 wd_710 wd_23 rfl h2 rfl (Nat.le_of_ble_eq_true rfl) (Nat.le_of_ble_eq_true rfl) (by omega) (by omega) (ls1 := [some (vR (some ar0)), some (vI x2), some (vI 52)]) rfl k
theorem BX1_readIf_47 {d bc bs : Nat} {h : aH} {n : Nat} {Q : aQ} {ar0 : Nat} {r1 : Option Nat} {x2 x3 : Int} {f1 : List aV} (h2 : h ar0 = cO 1 f1) (k : Rn d 0 0 mX1_readSum 0 [some (vR (some ar0)), some (vR r1), none, none] [] h n (fun v h1 n1 => Rn (d + 1) bc bs mX1_readIf 52 [some (vR (some ar0)), some (vR r1), some (vI x2), some (vI x3)] (v.toList ++ []) h1 n1 Q)) : Rn (d + 1) (bc) (bs) mX1_readIf 47 [some (vR (some ar0)), some (vR r1), some (vI x2), some (vI x3)] [] h n Q := by
  refine Rn_aload_n dX1_readIf_47 rfl rfl rfl ?_
  refine Rn_aload_n dX1_readIf_48 rfl rfl rfl ?_
  exact Rn_callV (ci := 1) (avs := [vR r1]) (st := []) (bc1 := 0) (bs1 := 0) (bc2 := bc) (bs2 := bs) fx_X1_readSum dX1_readIf_49 wd_642 wd_644 wd_8 rfl h2 rfl (Nat.le_of_ble_eq_true rfl) (Nat.le_of_ble_eq_true rfl) (by omega) (by omega) (ls1 := [some (vR (some ar0)), some (vR r1), none, none]) rfl k
theorem BX1_readIf_52 {d bc bs : Nat} {h : aH} {n : Nat} {Q : aQ} {ar0 : Nat} {r1 : Option Nat} {x2 x3 : Int} {f1 : List aV} (h2 : h ar0 = cO 1 f1) (k : Rn d 0 0 mX1_want 0 [some (vR (some ar0)), some (vR r1), some (vI 38)] [] h n (fun v h1 n1 => Rn (d + 1) bc bs mX1_readIf 59 [some (vR (some ar0)), some (vR r1), some (vI x2), some (vI x3)] (v.toList ++ []) h1 n1 Q)) : Rn (d + 1) (bc) (bs) mX1_readIf 52 [some (vR (some ar0)), some (vR r1), some (vI x2), some (vI x3)] [] h n Q := by
  refine Rn_aload_n dX1_readIf_52 rfl rfl rfl ?_
  refine Rn_aload_n dX1_readIf_53 rfl rfl rfl ?_
  refine Rn_bipush dX1_readIf_54 rfl ?_
  exact Rn_callV (ci := 1) (avs := [vR r1, vI 38]) (st := []) (bc1 := 0) (bs1 := 0) (bc2 := bc) (bs2 := bs) fx_X1_want dX1_readIf_56 wd_676 wd_678 wd_15 rfl h2 rfl (Nat.le_of_ble_eq_true rfl) (Nat.le_of_ble_eq_true rfl) (by omega) (by omega) (ls1 := [some (vR (some ar0)), some (vR r1), some (vI 38)]) rfl k
theorem BX1_readIf_59 {d bc bs : Nat} {h : aH} {n : Nat} {Q : aQ} {ar0 : Nat} {r1 : Option Nat} {x2 x3 : Int} {f1 : List aV} (h2 : h ar0 = cO 1 f1) (k : Rn d 0 0 mX1_leadHere 0 [some (vR (some ar0)), some (vI x3), some (vI 51)] [] h n (fun v h1 n1 => Rn (d + 1) bc bs mX1_readIf 66 [some (vR (some ar0)), some (vR r1), some (vI x2), some (vI x3)] (v.toList ++ []) h1 n1 Q)) : Rn (d + 1) (bc) (bs) mX1_readIf 59 [some (vR (some ar0)), some (vR r1), some (vI x2), some (vI x3)] [] h n Q := by
  refine Rn_aload_n dX1_readIf_59 rfl rfl rfl ?_
  refine Rn_iload_n dX1_readIf_60 rfl rfl ?_
  refine Rn_bipush dX1_readIf_61 rfl ?_
  exact Rn_callV (ci := 1) (avs := [vI x3, vI 51]) (st := []) (bc1 := 0) (bs1 := 0) (bc2 := bc) (bs2 := bs) fx_X1_leadHere dX1_readIf_63 wd_708 wd_710 wd_23 rfl h2 rfl (Nat.le_of_ble_eq_true rfl) (Nat.le_of_ble_eq_true rfl) (by omega) (by omega) (ls1 := [some (vR (some ar0)), some (vI x3), some (vI 51)]) rfl k
theorem BX1_readIf_66 {d bc bs : Nat} {h : aH} {n : Nat} {Q : aQ} {r0 r1 : Option Nat} {x2 x3 : Int} (k : Q none h n) : Rn d (bc) (bs) mX1_readIf 66 [some (vR r0), some (vR r1), some (vI x2), some (vI x3)] [] h n Q := by
  exact Rn_return rfl dX1_readIf_66 k
theorem dX1_readEither_0 : decode cX1_readEither 0 = .ok (.aload_n 0, 1) := by decide +kernel
theorem dX1_readEither_1 : decode cX1_readEither 1 = .ok (.aload_n 1, 1) := by decide +kernel
theorem dX1_readEither_2 : decode cX1_readEither 2 = .ok (.invokevirtual 158, 3) := by decide +kernel
theorem dX1_readEither_5 : decode cX1_readEither 5 = .ok (.iconst 0, 1) := by decide +kernel
theorem dX1_readEither_6 : decode cX1_readEither 6 = .ok (.istore_n 2, 1) := by decide +kernel
theorem dX1_readEither_7 : decode cX1_readEither 7 = .ok (.iload_n 2, 1) := by decide +kernel
theorem dX1_readEither_8 : decode cX1_readEither 8 = .ok (.sipush 300, 3) := by decide +kernel
theorem dX1_readEither_11 : decode cX1_readEither 11 = .ok (.if_icmp .ge 36, 3) := by decide +kernel
theorem dX1_readEither_14 : decode cX1_readEither 14 = .ok (.aload_n 0, 1) := by decide +kernel
theorem dX1_readEither_15 : decode cX1_readEither 15 = .ok (.aload_n 1, 1) := by decide +kernel
theorem dX1_readEither_16 : decode cX1_readEither 16 = .ok (.bipush 39, 2) := by decide +kernel
theorem dX1_readEither_18 : decode cX1_readEither 18 = .ok (.invokevirtual 73, 3) := by decide +kernel
theorem dX1_readEither_21 : decode cX1_readEither 21 = .ok (.ifCond .eq 26, 3) := by decide +kernel
theorem dX1_readEither_24 : decode cX1_readEither 24 = .ok (.aload_n 1, 1) := by decide +kernel
theorem dX1_readEither_25 : decode cX1_readEither 25 = .ok (.invokevirtual 77, 3) := by decide +kernel
theorem dX1_readEither_28 : decode cX1_readEither 28 = .ok (.aload_n 0, 1) := by decide +kernel
theorem dX1_readEither_29 : decode cX1_readEither 29 = .ok (.aload_n 1, 1) := by decide +kernel
theorem dX1_readEither_30 : decode cX1_readEither 30 = .ok (.invokevirtual 158, 3) := by decide +kernel
theorem dX1_readEither_33 : decode cX1_readEither 33 = .ok (.aload_n 0, 1) := by decide +kernel
theorem dX1_readEither_34 : decode cX1_readEither 34 = .ok (.bipush 39, 2) := by decide +kernel
theorem dX1_readEither_36 : decode cX1_readEither 36 = .ok (.iconst 0, 1) := by decide +kernel
theorem dX1_readEither_37 : decode cX1_readEither 37 = .ok (.invokevirtual 130, 3) := by decide +kernel
theorem dX1_readEither_40 : decode cX1_readEither 40 = .ok (.pop, 1) := by decide +kernel
theorem dX1_readEither_41 : decode cX1_readEither 41 = .ok (.iinc 2 1, 3) := by decide +kernel
theorem dX1_readEither_44 : decode cX1_readEither 44 = .ok (.goto (-37), 3) := by decide +kernel
theorem dX1_readEither_47 : decode cX1_readEither 47 = .ok (.return_, 1) := by decide +kernel
theorem BX1_readEither_0 {d bc bs : Nat} {h : aH} {n : Nat} {Q : aQ} {ar0 : Nat} {r1 : Option Nat} {l2 : Option aV} {f1 : List aV} (h2 : h ar0 = cO 1 f1) (k : Rn d 0 0 mX1_readBoth 0 [some (vR (some ar0)), some (vR r1), none] [] h n (fun v h1 n1 => Rn (d + 1) bc bs mX1_readEither 5 [some (vR (some ar0)), some (vR r1), l2] (v.toList ++ []) h1 n1 Q)) : Rn (d + 1) (bc) (bs) mX1_readEither 0 [some (vR (some ar0)), some (vR r1), l2] [] h n Q := by
  refine Rn_aload_n dX1_readEither_0 rfl rfl rfl ?_
  refine Rn_aload_n dX1_readEither_1 rfl rfl rfl ?_
  exact Rn_callV (ci := 1) (avs := [vR r1]) (st := []) (bc1 := 0) (bs1 := 0) (bc2 := bc) (bs2 := bs) fx_X1_readBoth dX1_readEither_2 wd_692 wd_694 wd_19 rfl h2 rfl (Nat.le_of_ble_eq_true rfl) (Nat.le_of_ble_eq_true rfl) (by omega) (by omega) (ls1 := [some (vR (some ar0)), some (vR r1), none]) rfl k
theorem BX1_readEither_5 {d bc bs : Nat} {h : aH} {n : Nat} {Q : aQ} {r0 r1 : Option Nat} {l2 : Option aV} (k : Rn d bc bs mX1_readEither 7 [some (vR r0), some (vR r1), some (vI 0)] [] h n Q) : Rn d (bc) (bs) mX1_readEither 5 [some (vR r0), some (vR r1), l2] [] h n Q := by
  refine Rn_iconst dX1_readEither_5 rfl ?_
  refine Rn_istore_n dX1_readEither_6 rfl (Nat.le_of_ble_eq_true rfl) rfl rfl ?_
  exact k
theorem BX1_readEither_7 {d bc bs : Nat} {h : aH} {n : Nat} {Q : aQ} {r0 r1 : Option Nat} {x2 : Int} (kt : 300 ≤ x2 → Rn d bc bs mX1_readEither 47 [some (vR r0), some (vR r1), some (vI x2)] [] h n Q) (kf : x2 < 300 → Rn d bc bs mX1_readEither 14 [some (vR r0), some (vR r1), some (vI x2)] [] h n Q) : Rn d (bc) (bs) mX1_readEither 7 [some (vR r0), some (vR r1), some (vI x2)] [] h n Q := by
  refine Rn_iload_n dX1_readEither_7 rfl rfl ?_
  refine Rn_sipush dX1_readEither_8 rfl ?_
  refine Rn_icmpge (tgt := 47) dX1_readEither_11 rfl ?_ ?_
  · exact kt
  · exact kf
theorem BX1_readEither_14 {d bc bs : Nat} {h : aH} {n : Nat} {Q : aQ} {ar0 : Nat} {r1 : Option Nat} {x2 : Int} {f1 : List aV} (h2 : h ar0 = cO 1 f1) (k : Rn d 0 0 mX1_sees 0 [some (vR (some ar0)), some (vR r1), some (vI 39)] [] h n (fun v h1 n1 => Rn (d + 1) bc bs mX1_readEither 21 [some (vR (some ar0)), some (vR r1), some (vI x2)] (v.toList ++ []) h1 n1 Q)) : Rn (d + 1) (bc) (bs) mX1_readEither 14 [some (vR (some ar0)), some (vR r1), some (vI x2)] [] h n Q := by
  refine Rn_aload_n dX1_readEither_14 rfl rfl rfl ?_
  refine Rn_aload_n dX1_readEither_15 rfl rfl rfl ?_
  refine Rn_bipush dX1_readEither_16 rfl ?_
  exact Rn_callV (ci := 1) (avs := [vR r1, vI 39]) (st := []) (bc1 := 0) (bs1 := 0) (bc2 := bc) (bs2 := bs) fx_X1_sees dX1_readEither_18 wd_680 wd_682 wd_16 rfl h2 rfl (Nat.le_of_ble_eq_true rfl) (Nat.le_of_ble_eq_true rfl) (by omega) (by omega) (ls1 := [some (vR (some ar0)), some (vR r1), some (vI 39)]) rfl k
theorem BX1_readEither_21 {d bc bs : Nat} {h : aH} {n : Nat} {Q : aQ} {r0 r1 : Option Nat} {x2 s0 : Int} (kt : s0 = 0 → Rn d bc bs mX1_readEither 47 [some (vR r0), some (vR r1), some (vI x2)] [] h n Q) (kf : s0 ≠ 0 → Rn d bc bs mX1_readEither 24 [some (vR r0), some (vR r1), some (vI x2)] [] h n Q) : Rn d (bc) (bs) mX1_readEither 21 [some (vR r0), some (vR r1), some (vI x2)] [vI s0] h n Q := by
  refine Rn_ifeq (tgt := 47) dX1_readEither_21 rfl ?_ ?_
  · exact kt
  · exact kf
theorem BX1_readEither_24 {d bc bs : Nat} {h : aH} {n : Nat} {Q : aQ} {r0 : Option Nat} {ar1 : Nat} {x2 : Int} {f1 : List aV} (h2 : h ar1 = cO 9 f1) (k : Rn d 0 0 mX9_comeToNext 0 [some (vR (some ar1)), none] [] h n (fun v h1 n1 => Rn (d + 1) bc bs mX1_readEither 28 [some (vR r0), some (vR (some ar1)), some (vI x2)] (v.toList ++ []) h1 n1 Q)) : Rn (d + 1) (bc) (bs) mX1_readEither 24 [some (vR r0), some (vR (some ar1)), some (vI x2)] [] h n Q := by
  refine Rn_aload_n dX1_readEither_24 rfl rfl rfl ?_
  exact Rn_callV (ci := 9) (avs := []) (st := []) (bc1 := 0) (bs1 := 0) (bc2 := bc) (bs2 := bs) fx_X9_comeToNext dX1_readEither_25 wd_641 wd_544 wd_545 rfl h2 rfl (Nat.le_of_ble_eq_true rfl) (Nat.le_of_ble_eq_true rfl) (by omega) (by omega) (ls1 := [some (vR (some ar1)), none]) rfl k
theorem BX1_readEither_28 {d bc bs : Nat} {h : aH} {n : Nat} {Q : aQ} {ar0 : Nat} {r1 : Option Nat} {x2 : Int} {f1 : List aV} (h2 : h ar0 = cO 1 f1) (k : Rn d 0 0 mX1_readBoth 0 [some (vR (some ar0)), some (vR r1), none] [] h n (fun v h1 n1 => Rn (d + 1) bc bs mX1_readEither 33 [some (vR (some ar0)), some (vR r1), some (vI x2)] (v.toList ++ []) h1 n1 Q)) : Rn (d + 1) (bc) (bs) mX1_readEither 28 [some (vR (some ar0)), some (vR r1), some (vI x2)] [] h n Q := by
  refine Rn_aload_n dX1_readEither_28 rfl rfl rfl ?_
  refine Rn_aload_n dX1_readEither_29 rfl rfl rfl ?_
  exact Rn_callV (ci := 1) (avs := [vR r1]) (st := []) (bc1 := 0) (bs1 := 0) (bc2 := bc) (bs2 := bs) fx_X1_readBoth dX1_readEither_30 wd_692 wd_694 wd_19 rfl h2 rfl (Nat.le_of_ble_eq_true rfl) (Nat.le_of_ble_eq_true rfl) (by omega) (by omega) (ls1 := [some (vR (some ar0)), some (vR r1), none]) rfl k
theorem BX1_readEither_33 {d bc bs : Nat} {h : aH} {n : Nat} {Q : aQ} {ar0 : Nat} {r1 : Option Nat} {x2 : Int} {f1 : List aV} (h2 : h ar0 = cO 1 f1) (k : Rn d 0 0 mX1_addSign 0 [some (vR (some ar0)), some (vI 39), some (vI 0), none] [] h n (fun v h1 n1 => Rn (d + 1) bc bs mX1_readEither 40 [some (vR (some ar0)), some (vR r1), some (vI x2)] (v.toList ++ []) h1 n1 Q)) : Rn (d + 1) (bc) (bs) mX1_readEither 33 [some (vR (some ar0)), some (vR r1), some (vI x2)] [] h n Q := by
  refine Rn_aload_n dX1_readEither_33 rfl rfl rfl ?_
  refine Rn_bipush dX1_readEither_34 rfl ?_
  refine Rn_iconst dX1_readEither_36 rfl ?_
  exact Rn_callV (ci := 1) (avs := [vI 39, vI 0]) (st := []) (bc1 := 0) (bs1 := 0) (bc2 := bc) (bs2 := bs) fx_X1_addSign dX1_readEither_37 wd_658 wd_660 wd_12 rfl h2 rfl (Nat.le_of_ble_eq_true rfl) (Nat.le_of_ble_eq_true rfl) (by omega) (by omega) (ls1 := [some (vR (some ar0)), some (vI 39), some (vI 0), none]) rfl k
theorem BX1_readEither_40 {d bc bs : Nat} {h : aH} {n : Nat} {Q : aQ} {r0 r1 : Option Nat} {x2 s0 : Int} (b1 : -2147483648 ≤ x2 + 1 ∧ x2 + 1 < 2147483648) (k : Rn d bc bs mX1_readEither 7 [some (vR r0), some (vR r1), some (vI (x2 + 1))] [] h n Q) : Rn d (bc) (bs) mX1_readEither 40 [some (vR r0), some (vR r1), some (vI x2)] [vI s0] h n Q := by
  refine Rn_pop dX1_readEither_40 rfl ?_
  refine Rn_iinc dX1_readEither_41 rfl (Nat.le_of_ble_eq_true rfl) rfl rfl rfl ?_
  rw [w32_id b1.1 b1.2]
  refine Rn_goto (tgt := 7) dX1_readEither_44 rfl ?_
  exact k
theorem BX1_readEither_47 {d bc bs : Nat} {h : aH} {n : Nat} {Q : aQ} {r0 r1 : Option Nat} {x2 : Int} (k : Q none h n) : Rn d (bc) (bs) mX1_readEither 47 [some (vR r0), some (vR r1), some (vI x2)] [] h n Q := by
  exact Rn_return rfl dX1_readEither_47 k
theorem dX1_readBoth_0 : decode cX1_readBoth 0 = .ok (.aload_n 0, 1) := by decide +kernel
theorem dX1_readBoth_1 : decode cX1_readBoth 1 = .ok (.aload_n 1, 1) := by decide +kernel
theorem dX1_readBoth_2 : decode cX1_readBoth 2 = .ok (.invokevirtual 161, 3) := by decide +kernel
theorem dX1_readBoth_5 : decode cX1_readBoth 5 = .ok (.iconst 0, 1) := by decide +kernel
theorem dX1_readBoth_6 : decode cX1_readBoth 6 = .ok (.istore_n 2, 1) := by decide +kernel
theorem dX1_readBoth_7 : decode cX1_readBoth 7 = .ok (.iload_n 2, 1) := by decide +kernel
theorem dX1_readBoth_8 : decode cX1_readBoth 8 = .ok (.sipush 300, 3) := by decide +kernel
theorem dX1_readBoth_11 : decode cX1_readBoth 11 = .ok (.if_icmp .ge 36, 3) := by decide +kernel
theorem dX1_readBoth_14 : decode cX1_readBoth 14 = .ok (.aload_n 0, 1) := by decide +kernel
theorem dX1_readBoth_15 : decode cX1_readBoth 15 = .ok (.aload_n 1, 1) := by decide +kernel
theorem dX1_readBoth_16 : decode cX1_readBoth 16 = .ok (.bipush 40, 2) := by decide +kernel
theorem dX1_readBoth_18 : decode cX1_readBoth 18 = .ok (.invokevirtual 73, 3) := by decide +kernel
theorem dX1_readBoth_21 : decode cX1_readBoth 21 = .ok (.ifCond .eq 26, 3) := by decide +kernel
theorem dX1_readBoth_24 : decode cX1_readBoth 24 = .ok (.aload_n 1, 1) := by decide +kernel
theorem dX1_readBoth_25 : decode cX1_readBoth 25 = .ok (.invokevirtual 77, 3) := by decide +kernel
theorem dX1_readBoth_28 : decode cX1_readBoth 28 = .ok (.aload_n 0, 1) := by decide +kernel
theorem dX1_readBoth_29 : decode cX1_readBoth 29 = .ok (.aload_n 1, 1) := by decide +kernel
theorem dX1_readBoth_30 : decode cX1_readBoth 30 = .ok (.invokevirtual 161, 3) := by decide +kernel
theorem dX1_readBoth_33 : decode cX1_readBoth 33 = .ok (.aload_n 0, 1) := by decide +kernel
theorem dX1_readBoth_34 : decode cX1_readBoth 34 = .ok (.bipush 40, 2) := by decide +kernel
theorem dX1_readBoth_36 : decode cX1_readBoth 36 = .ok (.iconst 0, 1) := by decide +kernel
theorem dX1_readBoth_37 : decode cX1_readBoth 37 = .ok (.invokevirtual 130, 3) := by decide +kernel
theorem dX1_readBoth_40 : decode cX1_readBoth 40 = .ok (.pop, 1) := by decide +kernel
theorem dX1_readBoth_41 : decode cX1_readBoth 41 = .ok (.iinc 2 1, 3) := by decide +kernel
theorem dX1_readBoth_44 : decode cX1_readBoth 44 = .ok (.goto (-37), 3) := by decide +kernel
theorem dX1_readBoth_47 : decode cX1_readBoth 47 = .ok (.return_, 1) := by decide +kernel
theorem BX1_readBoth_0 {d bc bs : Nat} {h : aH} {n : Nat} {Q : aQ} {ar0 : Nat} {r1 : Option Nat} {l2 : Option aV} {f1 : List aV} (h2 : h ar0 = cO 1 f1) (k : Rn d 0 0 mX1_readAsk 0 [some (vR (some ar0)), some (vR r1)] [] h n (fun v h1 n1 => Rn (d + 1) bc bs mX1_readBoth 5 [some (vR (some ar0)), some (vR r1), l2] (v.toList ++ []) h1 n1 Q)) : Rn (d + 1) (bc) (bs) mX1_readBoth 0 [some (vR (some ar0)), some (vR r1), l2] [] h n Q := by
  refine Rn_aload_n dX1_readBoth_0 rfl rfl rfl ?_
  refine Rn_aload_n dX1_readBoth_1 rfl rfl rfl ?_
  exact Rn_callV (ci := 1) (avs := [vR r1]) (st := []) (bc1 := 0) (bs1 := 0) (bc2 := bc) (bs2 := bs) fx_X1_readAsk dX1_readBoth_2 wd_696 wd_698 wd_20 rfl h2 rfl (Nat.le_of_ble_eq_true rfl) (Nat.le_of_ble_eq_true rfl) (by omega) (by omega) (ls1 := [some (vR (some ar0)), some (vR r1)]) rfl k
theorem BX1_readBoth_5 {d bc bs : Nat} {h : aH} {n : Nat} {Q : aQ} {r0 r1 : Option Nat} {l2 : Option aV} (k : Rn d bc bs mX1_readBoth 7 [some (vR r0), some (vR r1), some (vI 0)] [] h n Q) : Rn d (bc) (bs) mX1_readBoth 5 [some (vR r0), some (vR r1), l2] [] h n Q := by
  refine Rn_iconst dX1_readBoth_5 rfl ?_
  refine Rn_istore_n dX1_readBoth_6 rfl (Nat.le_of_ble_eq_true rfl) rfl rfl ?_
  exact k
theorem BX1_readBoth_7 {d bc bs : Nat} {h : aH} {n : Nat} {Q : aQ} {r0 r1 : Option Nat} {x2 : Int} (kt : 300 ≤ x2 → Rn d bc bs mX1_readBoth 47 [some (vR r0), some (vR r1), some (vI x2)] [] h n Q) (kf : x2 < 300 → Rn d bc bs mX1_readBoth 14 [some (vR r0), some (vR r1), some (vI x2)] [] h n Q) : Rn d (bc) (bs) mX1_readBoth 7 [some (vR r0), some (vR r1), some (vI x2)] [] h n Q := by
  refine Rn_iload_n dX1_readBoth_7 rfl rfl ?_
  refine Rn_sipush dX1_readBoth_8 rfl ?_
  refine Rn_icmpge (tgt := 47) dX1_readBoth_11 rfl ?_ ?_
  · exact kt
  · exact kf
theorem BX1_readBoth_14 {d bc bs : Nat} {h : aH} {n : Nat} {Q : aQ} {ar0 : Nat} {r1 : Option Nat} {x2 : Int} {f1 : List aV} (h2 : h ar0 = cO 1 f1) (k : Rn d 0 0 mX1_sees 0 [some (vR (some ar0)), some (vR r1), some (vI 40)] [] h n (fun v h1 n1 => Rn (d + 1) bc bs mX1_readBoth 21 [some (vR (some ar0)), some (vR r1), some (vI x2)] (v.toList ++ []) h1 n1 Q)) : Rn (d + 1) (bc) (bs) mX1_readBoth 14 [some (vR (some ar0)), some (vR r1), some (vI x2)] [] h n Q := by
  refine Rn_aload_n dX1_readBoth_14 rfl rfl rfl ?_
  refine Rn_aload_n dX1_readBoth_15 rfl rfl rfl ?_
  refine Rn_bipush dX1_readBoth_16 rfl ?_
  exact Rn_callV (ci := 1) (avs := [vR r1, vI 40]) (st := []) (bc1 := 0) (bs1 := 0) (bc2 := bc) (bs2 := bs) fx_X1_sees dX1_readBoth_18 wd_680 wd_682 wd_16 rfl h2 rfl (Nat.le_of_ble_eq_true rfl) (Nat.le_of_ble_eq_true rfl) (by omega) (by omega) (ls1 := [some (vR (some ar0)), some (vR r1), some (vI 40)]) rfl k
theorem BX1_readBoth_21 {d bc bs : Nat} {h : aH} {n : Nat} {Q : aQ} {r0 r1 : Option Nat} {x2 s0 : Int} (kt : s0 = 0 → Rn d bc bs mX1_readBoth 47 [some (vR r0), some (vR r1), some (vI x2)] [] h n Q) (kf : s0 ≠ 0 → Rn d bc bs mX1_readBoth 24 [some (vR r0), some (vR r1), some (vI x2)] [] h n Q) : Rn d (bc) (bs) mX1_readBoth 21 [some (vR r0), some (vR r1), some (vI x2)] [vI s0] h n Q := by
  refine Rn_ifeq (tgt := 47) dX1_readBoth_21 rfl ?_ ?_
  · exact kt
  · exact kf
theorem BX1_readBoth_24 {d bc bs : Nat} {h : aH} {n : Nat} {Q : aQ} {r0 : Option Nat} {ar1 : Nat} {x2 : Int} {f1 : List aV} (h2 : h ar1 = cO 9 f1) (k : Rn d 0 0 mX9_comeToNext 0 [some (vR (some ar1)), none] [] h n (fun v h1 n1 => Rn (d + 1) bc bs mX1_readBoth 28 [some (vR r0), some (vR (some ar1)), some (vI x2)] (v.toList ++ []) h1 n1 Q)) : Rn (d + 1) (bc) (bs) mX1_readBoth 24 [some (vR r0), some (vR (some ar1)), some (vI x2)] [] h n Q := by
  refine Rn_aload_n dX1_readBoth_24 rfl rfl rfl ?_
  exact Rn_callV (ci := 9) (avs := []) (st := []) (bc1 := 0) (bs1 := 0) (bc2 := bc) (bs2 := bs) fx_X9_comeToNext dX1_readBoth_25 wd_641 wd_544 wd_545 rfl h2 rfl (Nat.le_of_ble_eq_true rfl) (Nat.le_of_ble_eq_true rfl) (by omega) (by omega) (ls1 := [some (vR (some ar1)), none]) rfl k
theorem BX1_readBoth_28 {d bc bs : Nat} {h : aH} {n : Nat} {Q : aQ} {ar0 : Nat} {r1 : Option Nat} {x2 : Int} {f1 : List aV} (h2 : h ar0 = cO 1 f1) (k : Rn d 0 0 mX1_readAsk 0 [some (vR (some ar0)), some (vR r1)] [] h n (fun v h1 n1 => Rn (d + 1) bc bs mX1_readBoth 33 [some (vR (some ar0)), some (vR r1), some (vI x2)] (v.toList ++ []) h1 n1 Q)) : Rn (d + 1) (bc) (bs) mX1_readBoth 28 [some (vR (some ar0)), some (vR r1), some (vI x2)] [] h n Q := by
  refine Rn_aload_n dX1_readBoth_28 rfl rfl rfl ?_
  refine Rn_aload_n dX1_readBoth_29 rfl rfl rfl ?_
  exact Rn_callV (ci := 1) (avs := [vR r1]) (st := []) (bc1 := 0) (bs1 := 0) (bc2 := bc) (bs2 := bs) fx_X1_readAsk dX1_readBoth_30 wd_696 wd_698 wd_20 rfl h2 rfl (Nat.le_of_ble_eq_true rfl) (Nat.le_of_ble_eq_true rfl) (by omega) (by omega) (ls1 := [some (vR (some ar0)), some (vR r1)]) rfl k
theorem BX1_readBoth_33 {d bc bs : Nat} {h : aH} {n : Nat} {Q : aQ} {ar0 : Nat} {r1 : Option Nat} {x2 : Int} {f1 : List aV} (h2 : h ar0 = cO 1 f1) (k : Rn d 0 0 mX1_addSign 0 [some (vR (some ar0)), some (vI 40), some (vI 0), none] [] h n (fun v h1 n1 => Rn (d + 1) bc bs mX1_readBoth 40 [some (vR (some ar0)), some (vR r1), some (vI x2)] (v.toList ++ []) h1 n1 Q)) : Rn (d + 1) (bc) (bs) mX1_readBoth 33 [some (vR (some ar0)), some (vR r1), some (vI x2)] [] h n Q := by
  refine Rn_aload_n dX1_readBoth_33 rfl rfl rfl ?_
  refine Rn_bipush dX1_readBoth_34 rfl ?_
  refine Rn_iconst dX1_readBoth_36 rfl ?_
  exact Rn_callV (ci := 1) (avs := [vI 40, vI 0]) (st := []) (bc1 := 0) (bs1 := 0) (bc2 := bc) (bs2 := bs) fx_X1_addSign dX1_readBoth_37 wd_658 wd_660 wd_12 rfl h2 rfl (Nat.le_of_ble_eq_true rfl) (Nat.le_of_ble_eq_true rfl) (by omega) (by omega) (ls1 := [some (vR (some ar0)), some (vI 40), some (vI 0), none]) rfl k
theorem BX1_readBoth_40 {d bc bs : Nat} {h : aH} {n : Nat} {Q : aQ} {r0 r1 : Option Nat} {x2 s0 : Int} (b1 : -2147483648 ≤ x2 + 1 ∧ x2 + 1 < 2147483648) (k : Rn d bc bs mX1_readBoth 7 [some (vR r0), some (vR r1), some (vI (x2 + 1))] [] h n Q) : Rn d (bc) (bs) mX1_readBoth 40 [some (vR r0), some (vR r1), some (vI x2)] [vI s0] h n Q := by
  refine Rn_pop dX1_readBoth_40 rfl ?_
  refine Rn_iinc dX1_readBoth_41 rfl (Nat.le_of_ble_eq_true rfl) rfl rfl rfl ?_
  rw [w32_id b1.1 b1.2]
  refine Rn_goto (tgt := 7) dX1_readBoth_44 rfl ?_
  exact k
theorem BX1_readBoth_47 {d bc bs : Nat} {h : aH} {n : Nat} {Q : aQ} {r0 r1 : Option Nat} {x2 : Int} (k : Q none h n) : Rn d (bc) (bs) mX1_readBoth 47 [some (vR r0), some (vR r1), some (vI x2)] [] h n Q := by
  exact Rn_return rfl dX1_readBoth_47 k
theorem dX1_readAsk_0 : decode cX1_readAsk 0 = .ok (.aload_n 0, 1) := by decide +kernel
theorem dX1_readAsk_1 : decode cX1_readAsk 1 = .ok (.getfield 33, 3) := by decide +kernel
theorem dX1_readAsk_4 : decode cX1_readAsk 4 = .ok (.ifCond .eq 4, 3) := by decide +kernel
theorem dX1_readAsk_7 : decode cX1_readAsk 7 = .ok (.return_, 1) := by decide +kernel
theorem dX1_readAsk_8 : decode cX1_readAsk 8 = .ok (.aload_n 1, 1) := by decide +kernel
theorem dX1_readAsk_9 : decode cX1_readAsk 9 = .ok (.getfield 44, 3) := by decide +kernel
theorem dX1_readAsk_12 : decode cX1_readAsk 12 = .ok (.bipush 41, 2) := by decide +kernel
theorem dX1_readAsk_14 : decode cX1_readAsk 14 = .ok (.if_icmp .eq 11, 3) := by decide +kernel
theorem dX1_readAsk_17 : decode cX1_readAsk 17 = .ok (.aload_n 0, 1) := by decide +kernel
theorem dX1_readAsk_18 : decode cX1_readAsk 18 = .ok (.aload_n 1, 1) := by decide +kernel
theorem dX1_readAsk_19 : decode cX1_readAsk 19 = .ok (.invokevirtual 164, 3) := by decide +kernel
theorem dX1_readAsk_22 : decode cX1_readAsk 22 = .ok (.goto 46, 3) := by decide +kernel
theorem dX1_readAsk_25 : decode cX1_readAsk 25 = .ok (.aload_n 0, 1) := by decide +kernel
theorem dX1_readAsk_26 : decode cX1_readAsk 26 = .ok (.getfield 24, 3) := by decide +kernel
theorem dX1_readAsk_29 : decode cX1_readAsk 29 = .ok (.bipush 8, 2) := by decide +kernel
theorem dX1_readAsk_31 : decode cX1_readAsk 31 = .ok (.if_icmp .lt 12, 3) := by decide +kernel
theorem dX1_readAsk_34 : decode cX1_readAsk 34 = .ok (.aload_n 0, 1) := by decide +kernel
theorem dX1_readAsk_35 : decode cX1_readAsk 35 = .ok (.aload_n 1, 1) := by decide +kernel
theorem dX1_readAsk_36 : decode cX1_readAsk 36 = .ok (.iconst 3, 1) := by decide +kernel
theorem dX1_readAsk_37 : decode cX1_readAsk 37 = .ok (.invokevirtual 80, 3) := by decide +kernel
theorem dX1_readAsk_40 : decode cX1_readAsk 40 = .ok (.goto 28, 3) := by decide +kernel
theorem dX1_readAsk_43 : decode cX1_readAsk 43 = .ok (.aload_n 0, 1) := by decide +kernel
theorem dX1_readAsk_44 : decode cX1_readAsk 44 = .ok (.dup, 1) := by decide +kernel
theorem dX1_readAsk_45 : decode cX1_readAsk 45 = .ok (.getfield 24, 3) := by decide +kernel
theorem dX1_readAsk_48 : decode cX1_readAsk 48 = .ok (.iconst 1, 1) := by decide +kernel
theorem dX1_readAsk_49 : decode cX1_readAsk 49 = .ok (.iadd, 1) := by decide +kernel
theorem dX1_readAsk_50 : decode cX1_readAsk 50 = .ok (.putfield 24, 3) := by decide +kernel
theorem dX1_readAsk_53 : decode cX1_readAsk 53 = .ok (.aload_n 0, 1) := by decide +kernel
theorem dX1_readAsk_54 : decode cX1_readAsk 54 = .ok (.aload_n 1, 1) := by decide +kernel
theorem dX1_readAsk_55 : decode cX1_readAsk 55 = .ok (.invokevirtual 167, 3) := by decide +kernel
theorem dX1_readAsk_58 : decode cX1_readAsk 58 = .ok (.aload_n 0, 1) := by decide +kernel
theorem dX1_readAsk_59 : decode cX1_readAsk 59 = .ok (.dup, 1) := by decide +kernel
theorem dX1_readAsk_60 : decode cX1_readAsk 60 = .ok (.getfield 24, 3) := by decide +kernel
theorem dX1_readAsk_63 : decode cX1_readAsk 63 = .ok (.iconst 1, 1) := by decide +kernel
theorem dX1_readAsk_64 : decode cX1_readAsk 64 = .ok (.isub, 1) := by decide +kernel
theorem dX1_readAsk_65 : decode cX1_readAsk 65 = .ok (.putfield 24, 3) := by decide +kernel
theorem dX1_readAsk_68 : decode cX1_readAsk 68 = .ok (.return_, 1) := by decide +kernel
theorem BX1_readAsk_0 {d bc bs : Nat} {h : aH} {n : Nat} {Q : aQ} {ar0 : Nat} {r1 : Option Nat} {f1 : List aV} {v3 : Int} (h2 : h ar0 = cO 1 f1) (g4 : f1[8]? = some (vI v3)) (kt : v3 = 0 → Rn d bc bs mX1_readAsk 8 [some (vR (some ar0)), some (vR r1)] [] h n Q) (kf : v3 ≠ 0 → Rn d bc bs mX1_readAsk 7 [some (vR (some ar0)), some (vR r1)] [] h n Q) : Rn d (bc) (bs) mX1_readAsk 0 [some (vR (some ar0)), some (vR r1)] [] h n Q := by
  refine Rn_aload_n dX1_readAsk_0 rfl rfl rfl ?_
  refine Rn_getfield (ci := 1) (k := 8) dX1_readAsk_1 rfl in_1 (Nat.le_of_ble_eq_true rfl) wd_363 rfl h2 g4 ?_
  refine Rn_ifeq (tgt := 8) dX1_readAsk_4 rfl ?_ ?_
  · exact kt
  · exact kf
theorem BX1_readAsk_7 {d bc bs : Nat} {h : aH} {n : Nat} {Q : aQ} {r0 r1 : Option Nat} (k : Q none h n) : Rn d (bc) (bs) mX1_readAsk 7 [some (vR r0), some (vR r1)] [] h n Q := by
  exact Rn_return rfl dX1_readAsk_7 k
theorem BX1_readAsk_8 {d bc bs : Nat} {h : aH} {n : Nat} {Q : aQ} {r0 : Option Nat} {ar1 : Nat} {f1 : List aV} {v3 : Int} (h2 : h ar1 = cO 9 f1) (g4 : f1[2]? = some (vI v3)) (kt : v3 = 41 → Rn d bc bs mX1_readAsk 25 [some (vR r0), some (vR (some ar1))] [] h n Q) (kf : v3 ≠ 41 → Rn d bc bs mX1_readAsk 17 [some (vR r0), some (vR (some ar1))] [] h n Q) : Rn d (bc) (bs) mX1_readAsk 8 [some (vR r0), some (vR (some ar1))] [] h n Q := by
  refine Rn_aload_n dX1_readAsk_8 rfl rfl rfl ?_
  refine Rn_getfield (ci := 9) (k := 2) dX1_readAsk_9 rfl in_9 (Nat.le_of_ble_eq_true rfl) wd_330 rfl h2 g4 ?_
  refine Rn_bipush dX1_readAsk_12 rfl ?_
  refine Rn_icmpeq (tgt := 25) dX1_readAsk_14 rfl ?_ ?_
  · exact kt
  · exact kf
theorem BX1_readAsk_17 {d bc bs : Nat} {h : aH} {n : Nat} {Q : aQ} {ar0 : Nat} {r1 : Option Nat} {f1 : List aV} (h2 : h ar0 = cO 1 f1) (k : Rn d 0 0 mX1_readComparison 0 [some (vR (some ar0)), some (vR r1), none] [] h n (fun v h1 n1 => Rn (d + 1) bc bs mX1_readAsk 22 [some (vR (some ar0)), some (vR r1)] (v.toList ++ []) h1 n1 Q)) : Rn (d + 1) (bc) (bs) mX1_readAsk 17 [some (vR (some ar0)), some (vR r1)] [] h n Q := by
  refine Rn_aload_n dX1_readAsk_17 rfl rfl rfl ?_
  refine Rn_aload_n dX1_readAsk_18 rfl rfl rfl ?_
  exact Rn_callV (ci := 1) (avs := [vR r1]) (st := []) (bc1 := 0) (bs1 := 0) (bc2 := bc) (bs2 := bs) fx_X1_readComparison dX1_readAsk_19 wd_700 wd_702 wd_21 rfl h2 rfl (Nat.le_of_ble_eq_true rfl) (Nat.le_of_ble_eq_true rfl) (by omega) (by omega) (ls1 := [some (vR (some ar0)), some (vR r1), none]) rfl k
theorem BX1_readAsk_22 {d bc bs : Nat} {h : aH} {n : Nat} {Q : aQ} {r0 r1 : Option Nat} (k : Q none h n) : Rn d (bc) (bs) mX1_readAsk 22 [some (vR r0), some (vR r1)] [] h n Q := by
  refine Rn_goto (tgt := 68) dX1_readAsk_22 rfl ?_
  exact Rn_return rfl dX1_readAsk_68 k
theorem BX1_readAsk_25 {d bc bs : Nat} {h : aH} {n : Nat} {Q : aQ} {ar0 : Nat} {r1 : Option Nat} {f1 : List aV} {v3 : Int} (h2 : h ar0 = cO 1 f1) (g4 : f1[4]? = some (vI v3)) (kt : v3 < 8 → Rn d bc bs mX1_readAsk 43 [some (vR (some ar0)), some (vR r1)] [] h n Q) (kf : 8 ≤ v3 → Rn d bc bs mX1_readAsk 34 [some (vR (some ar0)), some (vR r1)] [] h n Q) : Rn d (bc) (bs) mX1_readAsk 25 [some (vR (some ar0)), some (vR r1)] [] h n Q := by
  refine Rn_aload_n dX1_readAsk_25 rfl rfl rfl ?_
  refine Rn_getfield (ci := 1) (k := 4) dX1_readAsk_26 rfl in_1 (Nat.le_of_ble_eq_true rfl) wd_359 rfl h2 g4 ?_
  refine Rn_bipush dX1_readAsk_29 rfl ?_
  refine Rn_icmplt (tgt := 43) dX1_readAsk_31 rfl ?_ ?_
  · exact kt
  · exact kf
theorem BX1_readAsk_34 {d bc bs : Nat} {h : aH} {n : Nat} {Q : aQ} {ar0 : Nat} {r1 : Option Nat} {f1 : List aV} (h2 : h ar0 = cO 1 f1) (k : Rn d 0 0 mX1_refuse 0 [some (vR (some ar0)), some (vR r1), some (vI 3)] [] h n (fun v h1 n1 => Rn (d + 1) bc bs mX1_readAsk 40 [some (vR (some ar0)), some (vR r1)] (v.toList ++ []) h1 n1 Q)) : Rn (d + 1) (bc) (bs) mX1_readAsk 34 [some (vR (some ar0)), some (vR r1)] [] h n Q := by
  refine Rn_aload_n dX1_readAsk_34 rfl rfl rfl ?_
  refine Rn_aload_n dX1_readAsk_35 rfl rfl rfl ?_
  refine Rn_iconst dX1_readAsk_36 rfl ?_
  exact Rn_callV (ci := 1) (avs := [vR r1, vI 3]) (st := []) (bc1 := 0) (bs1 := 0) (bc2 := bc) (bs2 := bs) fx_X1_refuse dX1_readAsk_37 wd_628 wd_630 wd_5 rfl h2 rfl (Nat.le_of_ble_eq_true rfl) (Nat.le_of_ble_eq_true rfl) (by omega) (by omega) (ls1 := [some (vR (some ar0)), some (vR r1), some (vI 3)]) rfl k
theorem BX1_readAsk_40 {d bc bs : Nat} {h : aH} {n : Nat} {Q : aQ} {r0 r1 : Option Nat} (k : Q none h n) : Rn d (bc) (bs) mX1_readAsk 40 [some (vR r0), some (vR r1)] [] h n Q := by
  refine Rn_goto (tgt := 68) dX1_readAsk_40 rfl ?_
  exact Rn_return rfl dX1_readAsk_68 k
theorem BX1_readAsk_43 {d bc bs : Nat} {h : aH} {n : Nat} {Q : aQ} {ar0 : Nat} {r1 : Option Nat} {f1 : List aV} {v3 : Int} (h2 : h ar0 = cO 1 f1) (g4 : f1[4]? = some (vI v3)) (b5 : -2147483648 ≤ v3 + 1 ∧ v3 + 1 < 2147483648) (m6 : 4 < f1.length) (k : Rn d bc bs mX1_readAsk 53 [some (vR (some ar0)), some (vR r1)] [] (up h ar0 (cO 1 (f1.set 4 (vI (v3 + 1))))) n Q) : Rn d (bc) (bs) mX1_readAsk 43 [some (vR (some ar0)), some (vR r1)] [] h n Q := by
  refine Rn_aload_n dX1_readAsk_43 rfl rfl rfl ?_
  refine Rn_dup dX1_readAsk_44 rfl ?_
  refine Rn_getfield (ci := 1) (k := 4) dX1_readAsk_45 rfl in_1 (Nat.le_of_ble_eq_true rfl) wd_359 rfl h2 g4 ?_
  refine Rn_iconst dX1_readAsk_48 rfl ?_
  refine Rn_iadd dX1_readAsk_49 ?_
  rw [w32_id b5.1 b5.2]
  refine Rn_putfield (ci := 1) (k := 4) dX1_readAsk_50 rfl in_1 tyX1_ok nmX1 (Nat.le_of_ble_eq_true rfl) wd_359 rfl (Or.inl rfl) trivial m6 h2 ?_
  exact k
theorem BX1_readAsk_53 {d bc bs : Nat} {h : aH} {n : Nat} {Q : aQ} {ar0 : Nat} {r1 : Option Nat} {f1 : List aV} (h2 : h ar0 = cO 1 f1) (k : Rn d 0 0 mX1_readDenied 0 [some (vR (some ar0)), some (vR r1)] [] h n (fun v h1 n1 => Rn (d + 1) bc bs mX1_readAsk 58 [some (vR (some ar0)), some (vR r1)] (v.toList ++ []) h1 n1 Q)) : Rn (d + 1) (bc) (bs) mX1_readAsk 53 [some (vR (some ar0)), some (vR r1)] [] h n Q := by
  refine Rn_aload_n dX1_readAsk_53 rfl rfl rfl ?_
  refine Rn_aload_n dX1_readAsk_54 rfl rfl rfl ?_
  exact Rn_callV (ci := 1) (avs := [vR r1]) (st := []) (bc1 := 0) (bs1 := 0) (bc2 := bc) (bs2 := bs) fx_X1_readDenied dX1_readAsk_55 wd_704 wd_706 wd_22 rfl h2 rfl (Nat.le_of_ble_eq_true rfl) (Nat.le_of_ble_eq_true rfl) (by omega) (by omega) (ls1 := [some (vR (some ar0)), some (vR r1)]) rfl k
theorem BX1_readAsk_58 {d bc bs : Nat} {h : aH} {n : Nat} {Q : aQ} {ar0 : Nat} {r1 : Option Nat} {f1 : List aV} {v3 : Int} (h2 : h ar0 = cO 1 f1) (g4 : f1[4]? = some (vI v3)) (b5 : -2147483648 ≤ v3 - 1 ∧ v3 - 1 < 2147483648) (m6 : 4 < f1.length) (k : Rn d bc bs mX1_readAsk 68 [some (vR (some ar0)), some (vR r1)] [] (up h ar0 (cO 1 (f1.set 4 (vI (v3 - 1))))) n Q) : Rn d (bc) (bs) mX1_readAsk 58 [some (vR (some ar0)), some (vR r1)] [] h n Q := by
  refine Rn_aload_n dX1_readAsk_58 rfl rfl rfl ?_
  refine Rn_dup dX1_readAsk_59 rfl ?_
  refine Rn_getfield (ci := 1) (k := 4) dX1_readAsk_60 rfl in_1 (Nat.le_of_ble_eq_true rfl) wd_359 rfl h2 g4 ?_
  refine Rn_iconst dX1_readAsk_63 rfl ?_
  refine Rn_isub dX1_readAsk_64 ?_
  rw [w32_id b5.1 b5.2]
  refine Rn_putfield (ci := 1) (k := 4) dX1_readAsk_65 rfl in_1 tyX1_ok nmX1 (Nat.le_of_ble_eq_true rfl) wd_359 rfl (Or.inl rfl) trivial m6 h2 ?_
  exact k
theorem BX1_readAsk_68 {d bc bs : Nat} {h : aH} {n : Nat} {Q : aQ} {r0 r1 : Option Nat} (k : Q none h n) : Rn d (bc) (bs) mX1_readAsk 68 [some (vR r0), some (vR r1)] [] h n Q := by
  exact Rn_return rfl dX1_readAsk_68 k
theorem dX1_readDenied_0 : decode cX1_readDenied 0 = .ok (.aload_n 1, 1) := by decide +kernel
theorem dX1_readDenied_1 : decode cX1_readDenied 1 = .ok (.invokevirtual 77, 3) := by decide +kernel
theorem dX1_readDenied_4 : decode cX1_readDenied 4 = .ok (.aload_n 0, 1) := by decide +kernel
theorem dX1_readDenied_5 : decode cX1_readDenied 5 = .ok (.aload_n 1, 1) := by decide +kernel
theorem dX1_readDenied_6 : decode cX1_readDenied 6 = .ok (.invokevirtual 161, 3) := by decide +kernel
theorem dX1_readDenied_9 : decode cX1_readDenied 9 = .ok (.aload_n 0, 1) := by decide +kernel
theorem dX1_readDenied_10 : decode cX1_readDenied 10 = .ok (.bipush 41, 2) := by decide +kernel
theorem dX1_readDenied_12 : decode cX1_readDenied 12 = .ok (.iconst 0, 1) := by decide +kernel
theorem dX1_readDenied_13 : decode cX1_readDenied 13 = .ok (.invokevirtual 130, 3) := by decide +kernel
theorem dX1_readDenied_16 : decode cX1_readDenied 16 = .ok (.pop, 1) := by decide +kernel
theorem dX1_readDenied_17 : decode cX1_readDenied 17 = .ok (.return_, 1) := by decide +kernel
theorem BX1_readDenied_0 {d bc bs : Nat} {h : aH} {n : Nat} {Q : aQ} {r0 : Option Nat} {ar1 : Nat} {f1 : List aV} (h2 : h ar1 = cO 9 f1) (k : Rn d 0 0 mX9_comeToNext 0 [some (vR (some ar1)), none] [] h n (fun v h1 n1 => Rn (d + 1) bc bs mX1_readDenied 4 [some (vR r0), some (vR (some ar1))] (v.toList ++ []) h1 n1 Q)) : Rn (d + 1) (bc) (bs) mX1_readDenied 0 [some (vR r0), some (vR (some ar1))] [] h n Q := by
  refine Rn_aload_n dX1_readDenied_0 rfl rfl rfl ?_
  exact Rn_callV (ci := 9) (avs := []) (st := []) (bc1 := 0) (bs1 := 0) (bc2 := bc) (bs2 := bs) fx_X9_comeToNext dX1_readDenied_1 wd_641 wd_544 wd_545 rfl h2 rfl (Nat.le_of_ble_eq_true rfl) (Nat.le_of_ble_eq_true rfl) (by omega) (by omega) (ls1 := [some (vR (some ar1)), none]) rfl k
theorem BX1_readDenied_4 {d bc bs : Nat} {h : aH} {n : Nat} {Q : aQ} {ar0 : Nat} {r1 : Option Nat} {f1 : List aV} (h2 : h ar0 = cO 1 f1) (k : Rn d 0 0 mX1_readAsk 0 [some (vR (some ar0)), some (vR r1)] [] h n (fun v h1 n1 => Rn (d + 1) bc bs mX1_readDenied 9 [some (vR (some ar0)), some (vR r1)] (v.toList ++ []) h1 n1 Q)) : Rn (d + 1) (bc) (bs) mX1_readDenied 4 [some (vR (some ar0)), some (vR r1)] [] h n Q := by
  refine Rn_aload_n dX1_readDenied_4 rfl rfl rfl ?_
  refine Rn_aload_n dX1_readDenied_5 rfl rfl rfl ?_
  exact Rn_callV (ci := 1) (avs := [vR r1]) (st := []) (bc1 := 0) (bs1 := 0) (bc2 := bc) (bs2 := bs) fx_X1_readAsk dX1_readDenied_6 wd_696 wd_698 wd_20 rfl h2 rfl (Nat.le_of_ble_eq_true rfl) (Nat.le_of_ble_eq_true rfl) (by omega) (by omega) (ls1 := [some (vR (some ar0)), some (vR r1)]) rfl k
theorem BX1_readDenied_9 {d bc bs : Nat} {h : aH} {n : Nat} {Q : aQ} {ar0 : Nat} {r1 : Option Nat} {f1 : List aV} (h2 : h ar0 = cO 1 f1) (k : Rn d 0 0 mX1_addSign 0 [some (vR (some ar0)), some (vI 41), some (vI 0), none] [] h n (fun v h1 n1 => Rn (d + 1) bc bs mX1_readDenied 16 [some (vR (some ar0)), some (vR r1)] (v.toList ++ []) h1 n1 Q)) : Rn (d + 1) (bc) (bs) mX1_readDenied 9 [some (vR (some ar0)), some (vR r1)] [] h n Q := by
  refine Rn_aload_n dX1_readDenied_9 rfl rfl rfl ?_
  refine Rn_bipush dX1_readDenied_10 rfl ?_
  refine Rn_iconst dX1_readDenied_12 rfl ?_
  exact Rn_callV (ci := 1) (avs := [vI 41, vI 0]) (st := []) (bc1 := 0) (bs1 := 0) (bc2 := bc) (bs2 := bs) fx_X1_addSign dX1_readDenied_13 wd_658 wd_660 wd_12 rfl h2 rfl (Nat.le_of_ble_eq_true rfl) (Nat.le_of_ble_eq_true rfl) (by omega) (by omega) (ls1 := [some (vR (some ar0)), some (vI 41), some (vI 0), none]) rfl k
theorem BX1_readDenied_16 {d bc bs : Nat} {h : aH} {n : Nat} {Q : aQ} {r0 r1 : Option Nat} {s0 : Int} (k : Q none h n) : Rn d (bc) (bs) mX1_readDenied 16 [some (vR r0), some (vR r1)] [vI s0] h n Q := by
  refine Rn_pop dX1_readDenied_16 rfl ?_
  exact Rn_return rfl dX1_readDenied_17 k
theorem dX1_readComparison_0 : decode cX1_readComparison 0 = .ok (.aload_n 0, 1) := by decide +kernel
theorem dX1_readComparison_1 : decode cX1_readComparison 1 = .ok (.aload_n 1, 1) := by decide +kernel
theorem dX1_readComparison_2 : decode cX1_readComparison 2 = .ok (.invokevirtual 95, 3) := by decide +kernel
theorem dX1_readComparison_5 : decode cX1_readComparison 5 = .ok (.aload_n 1, 1) := by decide +kernel
theorem dX1_readComparison_6 : decode cX1_readComparison 6 = .ok (.getfield 44, 3) := by decide +kernel
theorem dX1_readComparison_9 : decode cX1_readComparison 9 = .ok (.istore_n 2, 1) := by decide +kernel
theorem dX1_readComparison_10 : decode cX1_readComparison 10 = .ok (.iload_n 2, 1) := by decide +kernel
theorem dX1_readComparison_11 : decode cX1_readComparison 11 = .ok (.iconst 3, 1) := by decide +kernel
theorem dX1_readComparison_12 : decode cX1_readComparison 12 = .ok (.if_icmp .lt 9, 3) := by decide +kernel
theorem dX1_readComparison_15 : decode cX1_readComparison 15 = .ok (.iload_n 2, 1) := by decide +kernel
theorem dX1_readComparison_16 : decode cX1_readComparison 16 = .ok (.bipush 8, 2) := by decide +kernel
theorem dX1_readComparison_18 : decode cX1_readComparison 18 = .ok (.if_icmp .le 10, 3) := by decide +kernel
theorem dX1_readComparison_21 : decode cX1_readComparison 21 = .ok (.aload_n 0, 1) := by decide +kernel
theorem dX1_readComparison_22 : decode cX1_readComparison 22 = .ok (.aload_n 1, 1) := by decide +kernel
theorem dX1_readComparison_23 : decode cX1_readComparison 23 = .ok (.iconst 1, 1) := by decide +kernel
theorem dX1_readComparison_24 : decode cX1_readComparison 24 = .ok (.invokevirtual 80, 3) := by decide +kernel
theorem dX1_readComparison_27 : decode cX1_readComparison 27 = .ok (.return_, 1) := by decide +kernel
theorem dX1_readComparison_28 : decode cX1_readComparison 28 = .ok (.aload_n 0, 1) := by decide +kernel
theorem dX1_readComparison_29 : decode cX1_readComparison 29 = .ok (.getfield 33, 3) := by decide +kernel
theorem dX1_readComparison_32 : decode cX1_readComparison 32 = .ok (.ifCond .eq 4, 3) := by decide +kernel
theorem dX1_readComparison_35 : decode cX1_readComparison 35 = .ok (.return_, 1) := by decide +kernel
theorem dX1_readComparison_36 : decode cX1_readComparison 36 = .ok (.aload_n 1, 1) := by decide +kernel
theorem dX1_readComparison_37 : decode cX1_readComparison 37 = .ok (.invokevirtual 77, 3) := by decide +kernel
theorem dX1_readComparison_40 : decode cX1_readComparison 40 = .ok (.aload_n 0, 1) := by decide +kernel
theorem dX1_readComparison_41 : decode cX1_readComparison 41 = .ok (.aload_n 1, 1) := by decide +kernel
theorem dX1_readComparison_42 : decode cX1_readComparison 42 = .ok (.invokevirtual 95, 3) := by decide +kernel
theorem dX1_readComparison_45 : decode cX1_readComparison 45 = .ok (.aload_n 0, 1) := by decide +kernel
theorem dX1_readComparison_46 : decode cX1_readComparison 46 = .ok (.iload_n 2, 1) := by decide +kernel
theorem dX1_readComparison_47 : decode cX1_readComparison 47 = .ok (.iconst 0, 1) := by decide +kernel
theorem dX1_readComparison_48 : decode cX1_readComparison 48 = .ok (.invokevirtual 130, 3) := by decide +kernel
theorem dX1_readComparison_51 : decode cX1_readComparison 51 = .ok (.pop, 1) := by decide +kernel
theorem dX1_readComparison_52 : decode cX1_readComparison 52 = .ok (.return_, 1) := by decide +kernel
theorem BX1_readComparison_0 {d bc bs : Nat} {h : aH} {n : Nat} {Q : aQ} {ar0 : Nat} {r1 : Option Nat} {l2 : Option aV} {f1 : List aV} (h2 : h ar0 = cO 1 f1) (k : Rn d 0 0 mX1_readSum 0 [some (vR (some ar0)), some (vR r1), none, none] [] h n (fun v h1 n1 => Rn (d + 1) bc bs mX1_readComparison 5 [some (vR (some ar0)), some (vR r1), l2] (v.toList ++ []) h1 n1 Q)) : Rn (d + 1) (bc) (bs) mX1_readComparison 0 [some (vR (some ar0)), some (vR r1), l2] [] h n Q := by
  refine Rn_aload_n dX1_readComparison_0 rfl rfl rfl ?_
  refine Rn_aload_n dX1_readComparison_1 rfl rfl rfl ?_
  exact Rn_callV (ci := 1) (avs := [vR r1]) (st := []) (bc1 := 0) (bs1 := 0) (bc2 := bc) (bs2 := bs) fx_X1_readSum dX1_readComparison_2 wd_642 wd_644 wd_8 rfl h2 rfl (Nat.le_of_ble_eq_true rfl) (Nat.le_of_ble_eq_true rfl) (by omega) (by omega) (ls1 := [some (vR (some ar0)), some (vR r1), none, none]) rfl k
theorem BX1_readComparison_5 {d bc bs : Nat} {h : aH} {n : Nat} {Q : aQ} {r0 : Option Nat} {ar1 : Nat} {l2 : Option aV} {f1 : List aV} {v3 : Int} (h2 : h ar1 = cO 9 f1) (g4 : f1[2]? = some (vI v3)) (kt : v3 < 3 → Rn d bc bs mX1_readComparison 21 [some (vR r0), some (vR (some ar1)), some (vI v3)] [] h n Q) (kf : 3 ≤ v3 → Rn d bc bs mX1_readComparison 15 [some (vR r0), some (vR (some ar1)), some (vI v3)] [] h n Q) : Rn d (bc) (bs) mX1_readComparison 5 [some (vR r0), some (vR (some ar1)), l2] [] h n Q := by
  refine Rn_aload_n dX1_readComparison_5 rfl rfl rfl ?_
  refine Rn_getfield (ci := 9) (k := 2) dX1_readComparison_6 rfl in_9 (Nat.le_of_ble_eq_true rfl) wd_330 rfl h2 g4 ?_
  refine Rn_istore_n dX1_readComparison_9 rfl (Nat.le_of_ble_eq_true rfl) rfl rfl ?_
  refine Rn_iload_n dX1_readComparison_10 rfl rfl ?_
  refine Rn_iconst dX1_readComparison_11 rfl ?_
  refine Rn_icmplt (tgt := 21) dX1_readComparison_12 rfl ?_ ?_
  · exact kt
  · exact kf
theorem BX1_readComparison_15 {d bc bs : Nat} {h : aH} {n : Nat} {Q : aQ} {r0 r1 : Option Nat} {x2 : Int} (kt : x2 ≤ 8 → Rn d bc bs mX1_readComparison 28 [some (vR r0), some (vR r1), some (vI x2)] [] h n Q) (kf : 8 < x2 → Rn d bc bs mX1_readComparison 21 [some (vR r0), some (vR r1), some (vI x2)] [] h n Q) : Rn d (bc) (bs) mX1_readComparison 15 [some (vR r0), some (vR r1), some (vI x2)] [] h n Q := by
  refine Rn_iload_n dX1_readComparison_15 rfl rfl ?_
  refine Rn_bipush dX1_readComparison_16 rfl ?_
  refine Rn_icmple (tgt := 28) dX1_readComparison_18 rfl ?_ ?_
  · exact kt
  · exact kf
theorem BX1_readComparison_21 {d bc bs : Nat} {h : aH} {n : Nat} {Q : aQ} {ar0 : Nat} {r1 : Option Nat} {x2 : Int} {f1 : List aV} (h2 : h ar0 = cO 1 f1) (k : Rn d 0 0 mX1_refuse 0 [some (vR (some ar0)), some (vR r1), some (vI 1)] [] h n (fun v h1 n1 => Rn (d + 1) bc bs mX1_readComparison 27 [some (vR (some ar0)), some (vR r1), some (vI x2)] (v.toList ++ []) h1 n1 Q)) : Rn (d + 1) (bc) (bs) mX1_readComparison 21 [some (vR (some ar0)), some (vR r1), some (vI x2)] [] h n Q := by
  refine Rn_aload_n dX1_readComparison_21 rfl rfl rfl ?_
  refine Rn_aload_n dX1_readComparison_22 rfl rfl rfl ?_
  refine Rn_iconst dX1_readComparison_23 rfl ?_
  exact Rn_callV (ci := 1) (avs := [vR r1, vI 1]) (st := []) (bc1 := 0) (bs1 := 0) (bc2 := bc) (bs2 := bs) fx_X1_refuse dX1_readComparison_24 wd_628 wd_630 wd_5 rfl h2 rfl (Nat.le_of_ble_eq_true rfl) (Nat.le_of_ble_eq_true rfl) (by omega) (by omega) (ls1 := [some (vR (some ar0)), some (vR r1), some (vI 1)]) rfl k
theorem BX1_readComparison_27 {d bc bs : Nat} {h : aH} {n : Nat} {Q : aQ} {r0 r1 : Option Nat} {x2 : Int} (k : Q none h n) : Rn d (bc) (bs) mX1_readComparison 27 [some (vR r0), some (vR r1), some (vI x2)] [] h n Q := by
  exact Rn_return rfl dX1_readComparison_27 k
theorem BX1_readComparison_28 {d bc bs : Nat} {h : aH} {n : Nat} {Q : aQ} {ar0 : Nat} {r1 : Option Nat} {x2 v3 : Int} {f1 : List aV} (h2 : h ar0 = cO 1 f1) (g4 : f1[8]? = some (vI v3)) (kt : v3 = 0 → Rn d bc bs mX1_readComparison 36 [some (vR (some ar0)), some (vR r1), some (vI x2)] [] h n Q) (kf : v3 ≠ 0 → Rn d bc bs mX1_readComparison 35 [some (vR (some ar0)), some (vR r1), some (vI x2)] [] h n Q) : Rn d (bc) (bs) mX1_readComparison 28 [some (vR (some ar0)), some (vR r1), some (vI x2)] [] h n Q := by
  refine Rn_aload_n dX1_readComparison_28 rfl rfl rfl ?_
  refine Rn_getfield (ci := 1) (k := 8) dX1_readComparison_29 rfl in_1 (Nat.le_of_ble_eq_true rfl) wd_363 rfl h2 g4 ?_
  refine Rn_ifeq (tgt := 36) dX1_readComparison_32 rfl ?_ ?_
  · exact kt
  · exact kf
theorem BX1_readComparison_35 {d bc bs : Nat} {h : aH} {n : Nat} {Q : aQ} {r0 r1 : Option Nat} {x2 : Int} (k : Q none h n) : Rn d (bc) (bs) mX1_readComparison 35 [some (vR r0), some (vR r1), some (vI x2)] [] h n Q := by
  exact Rn_return rfl dX1_readComparison_35 k
theorem BX1_readComparison_36 {d bc bs : Nat} {h : aH} {n : Nat} {Q : aQ} {r0 : Option Nat} {ar1 : Nat} {x2 : Int} {f1 : List aV} (h2 : h ar1 = cO 9 f1) (k : Rn d 0 0 mX9_comeToNext 0 [some (vR (some ar1)), none] [] h n (fun v h1 n1 => Rn (d + 1) bc bs mX1_readComparison 40 [some (vR r0), some (vR (some ar1)), some (vI x2)] (v.toList ++ []) h1 n1 Q)) : Rn (d + 1) (bc) (bs) mX1_readComparison 36 [some (vR r0), some (vR (some ar1)), some (vI x2)] [] h n Q := by
  refine Rn_aload_n dX1_readComparison_36 rfl rfl rfl ?_
  exact Rn_callV (ci := 9) (avs := []) (st := []) (bc1 := 0) (bs1 := 0) (bc2 := bc) (bs2 := bs) fx_X9_comeToNext dX1_readComparison_37 wd_641 wd_544 wd_545 rfl h2 rfl (Nat.le_of_ble_eq_true rfl) (Nat.le_of_ble_eq_true rfl) (by omega) (by omega) (ls1 := [some (vR (some ar1)), none]) rfl k
theorem BX1_readComparison_40 {d bc bs : Nat} {h : aH} {n : Nat} {Q : aQ} {ar0 : Nat} {r1 : Option Nat} {x2 : Int} {f1 : List aV} (h2 : h ar0 = cO 1 f1) (k : Rn d 0 0 mX1_readSum 0 [some (vR (some ar0)), some (vR r1), none, none] [] h n (fun v h1 n1 => Rn (d + 1) bc bs mX1_readComparison 45 [some (vR (some ar0)), some (vR r1), some (vI x2)] (v.toList ++ []) h1 n1 Q)) : Rn (d + 1) (bc) (bs) mX1_readComparison 40 [some (vR (some ar0)), some (vR r1), some (vI x2)] [] h n Q := by
  refine Rn_aload_n dX1_readComparison_40 rfl rfl rfl ?_
  refine Rn_aload_n dX1_readComparison_41 rfl rfl rfl ?_
  exact Rn_callV (ci := 1) (avs := [vR r1]) (st := []) (bc1 := 0) (bs1 := 0) (bc2 := bc) (bs2 := bs) fx_X1_readSum dX1_readComparison_42 wd_642 wd_644 wd_8 rfl h2 rfl (Nat.le_of_ble_eq_true rfl) (Nat.le_of_ble_eq_true rfl) (by omega) (by omega) (ls1 := [some (vR (some ar0)), some (vR r1), none, none]) rfl k
theorem BX1_readComparison_45 {d bc bs : Nat} {h : aH} {n : Nat} {Q : aQ} {ar0 : Nat} {r1 : Option Nat} {x2 : Int} {f1 : List aV} (h2 : h ar0 = cO 1 f1) (k : Rn d 0 0 mX1_addSign 0 [some (vR (some ar0)), some (vI x2), some (vI 0), none] [] h n (fun v h1 n1 => Rn (d + 1) bc bs mX1_readComparison 51 [some (vR (some ar0)), some (vR r1), some (vI x2)] (v.toList ++ []) h1 n1 Q)) : Rn (d + 1) (bc) (bs) mX1_readComparison 45 [some (vR (some ar0)), some (vR r1), some (vI x2)] [] h n Q := by
  refine Rn_aload_n dX1_readComparison_45 rfl rfl rfl ?_
  refine Rn_iload_n dX1_readComparison_46 rfl rfl ?_
  refine Rn_iconst dX1_readComparison_47 rfl ?_
  exact Rn_callV (ci := 1) (avs := [vI x2, vI 0]) (st := []) (bc1 := 0) (bs1 := 0) (bc2 := bc) (bs2 := bs) fx_X1_addSign dX1_readComparison_48 wd_658 wd_660 wd_12 rfl h2 rfl (Nat.le_of_ble_eq_true rfl) (Nat.le_of_ble_eq_true rfl) (by omega) (by omega) (ls1 := [some (vR (some ar0)), some (vI x2), some (vI 0), none]) rfl k
theorem BX1_readComparison_51 {d bc bs : Nat} {h : aH} {n : Nat} {Q : aQ} {r0 r1 : Option Nat} {x2 s0 : Int} (k : Q none h n) : Rn d (bc) (bs) mX1_readComparison 51 [some (vR r0), some (vR r1), some (vI x2)] [vI s0] h n Q := by
  refine Rn_pop dX1_readComparison_51 rfl ?_
  exact Rn_return rfl dX1_readComparison_52 k
