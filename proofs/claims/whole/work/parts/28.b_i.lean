theorem dX13_canToss_0 : decode cX13_canToss 0 = .ok (.aload_n 0, 1) := by decide +kernel
theorem dX13_canToss_1 : decode cX13_canToss 1 = .ok (.iload_n 1, 1) := by decide +kernel
theorem dX13_canToss_2 : decode cX13_canToss 2 = .ok (.invokevirtual 343, 3) := by decide +kernel
theorem dX13_canToss_5 : decode cX13_canToss 5 = .ok (.ifCond .eq 32, 3) := by decide +kernel
theorem dX13_canToss_8 : decode cX13_canToss 8 = .ok (.aload_n 0, 1) := by decide +kernel
theorem dX13_canToss_9 : decode cX13_canToss 9 = .ok (.iload_n 2, 1) := by decide +kernel
theorem dX13_canToss_10 : decode cX13_canToss 10 = .ok (.invokevirtual 343, 3) := by decide +kernel
theorem dX13_canToss_13 : decode cX13_canToss 13 = .ok (.ifCond .eq 24, 3) := by decide +kernel
theorem dX13_canToss_16 : decode cX13_canToss 16 = .ok (.iload_n 1, 1) := by decide +kernel
theorem dX13_canToss_17 : decode cX13_canToss 17 = .ok (.iload_n 2, 1) := by decide +kernel
theorem dX13_canToss_18 : decode cX13_canToss 18 = .ok (.if_icmp .eq 19, 3) := by decide +kernel
theorem dX13_canToss_21 : decode cX13_canToss 21 = .ok (.aload_n 0, 1) := by decide +kernel
theorem dX13_canToss_22 : decode cX13_canToss 22 = .ok (.getfield 7, 3) := by decide +kernel
theorem dX13_canToss_25 : decode cX13_canToss 25 = .ok (.bipush 9, 2) := by decide +kernel
theorem dX13_canToss_27 : decode cX13_canToss 27 = .ok (.iaload, 1) := by decide +kernel
theorem dX13_canToss_28 : decode cX13_canToss 28 = .ok (.bipush 12, 2) := by decide +kernel
theorem dX13_canToss_30 : decode cX13_canToss 30 = .ok (.if_icmp .ge 7, 3) := by decide +kernel
theorem dX13_canToss_33 : decode cX13_canToss 33 = .ok (.iconst 1, 1) := by decide +kernel
theorem dX13_canToss_34 : decode cX13_canToss 34 = .ok (.goto 4, 3) := by decide +kernel
theorem dX13_canToss_37 : decode cX13_canToss 37 = .ok (.iconst 0, 1) := by decide +kernel
theorem dX13_canToss_38 : decode cX13_canToss 38 = .ok (.ireturn, 1) := by decide +kernel
theorem BX13_canToss_0 {d bc bs : Nat} {h : aH} {n : Nat} {Q : aQ} {ar0 : Nat} {x1 x2 : Int} {f1 : List aV} (h2 : h ar0 = cO 13 f1) (k : Rn d 0 0 mX13_isPerson 0 [some (vR (some ar0)), some (vI x1)] [] h n (fun v h1 n1 => Rn (d + 1) bc bs mX13_canToss 5 [some (vR (some ar0)), some (vI x1), some (vI x2)] (v.toList ++ []) h1 n1 Q)) : Rn (d + 1) (bc) (bs) mX13_canToss 0 [some (vR (some ar0)), some (vI x1), some (vI x2)] [] h n Q := by
  refine Rn_aload_n dX13_canToss_0 rfl rfl rfl ?_
  refine Rn_iload_n dX13_canToss_1 rfl rfl ?_
  exact Rn_callV (ci := 13) (avs := [vI x1]) (st := []) (bc1 := 0) (bs1 := 0) (bc2 := bc) (bs2 := bs) fx_X13_isPerson dX13_canToss_2 wd_1646 wd_1648 wd_74 rfl h2 rfl (Nat.le_of_ble_eq_true rfl) (Nat.le_of_ble_eq_true rfl) (by omega) (by omega) (ls1 := [some (vR (some ar0)), some (vI x1)]) rfl k
theorem BX13_canToss_5 {d bc bs : Nat} {h : aH} {n : Nat} {Q : aQ} {r0 : Option Nat} {x1 x2 s0 : Int} (kt : s0 = 0 → Rn d bc bs mX13_canToss 37 [some (vR r0), some (vI x1), some (vI x2)] [] h n Q) (kf : s0 ≠ 0 → Rn d bc bs mX13_canToss 8 [some (vR r0), some (vI x1), some (vI x2)] [] h n Q) : Rn d (bc) (bs) mX13_canToss 5 [some (vR r0), some (vI x1), some (vI x2)] [vI s0] h n Q := by
  refine Rn_ifeq (tgt := 37) dX13_canToss_5 rfl ?_ ?_
  · exact kt
  · exact kf
theorem BX13_canToss_8 {d bc bs : Nat} {h : aH} {n : Nat} {Q : aQ} {ar0 : Nat} {x1 x2 : Int} {f1 : List aV} (h2 : h ar0 = cO 13 f1) (k : Rn d 0 0 mX13_isPerson 0 [some (vR (some ar0)), some (vI x2)] [] h n (fun v h1 n1 => Rn (d + 1) bc bs mX13_canToss 13 [some (vR (some ar0)), some (vI x1), some (vI x2)] (v.toList ++ []) h1 n1 Q)) : Rn (d + 1) (bc) (bs) mX13_canToss 8 [some (vR (some ar0)), some (vI x1), some (vI x2)] [] h n Q := by
  refine Rn_aload_n dX13_canToss_8 rfl rfl rfl ?_
  refine Rn_iload_n dX13_canToss_9 rfl rfl ?_
  exact Rn_callV (ci := 13) (avs := [vI x2]) (st := []) (bc1 := 0) (bs1 := 0) (bc2 := bc) (bs2 := bs) fx_X13_isPerson dX13_canToss_10 wd_1646 wd_1648 wd_74 rfl h2 rfl (Nat.le_of_ble_eq_true rfl) (Nat.le_of_ble_eq_true rfl) (by omega) (by omega) (ls1 := [some (vR (some ar0)), some (vI x2)]) rfl k
theorem BX13_canToss_13 {d bc bs : Nat} {h : aH} {n : Nat} {Q : aQ} {r0 : Option Nat} {x1 x2 s0 : Int} (kt : s0 = 0 → Rn d bc bs mX13_canToss 37 [some (vR r0), some (vI x1), some (vI x2)] [] h n Q) (kf : s0 ≠ 0 → Rn d bc bs mX13_canToss 16 [some (vR r0), some (vI x1), some (vI x2)] [] h n Q) : Rn d (bc) (bs) mX13_canToss 13 [some (vR r0), some (vI x1), some (vI x2)] [vI s0] h n Q := by
  refine Rn_ifeq (tgt := 37) dX13_canToss_13 rfl ?_ ?_
  · exact kt
  · exact kf
theorem BX13_canToss_16 {d bc bs : Nat} {h : aH} {n : Nat} {Q : aQ} {r0 : Option Nat} {x1 x2 : Int} (kt : x1 = x2 → Rn d bc bs mX13_canToss 37 [some (vR r0), some (vI x1), some (vI x2)] [] h n Q) (kf : x1 ≠ x2 → Rn d bc bs mX13_canToss 21 [some (vR r0), some (vI x1), some (vI x2)] [] h n Q) : Rn d (bc) (bs) mX13_canToss 16 [some (vR r0), some (vI x1), some (vI x2)] [] h n Q := by
  refine Rn_iload_n dX13_canToss_16 rfl rfl ?_
  refine Rn_iload_n dX13_canToss_17 rfl rfl ?_
  refine Rn_icmpeq (tgt := 37) dX13_canToss_18 rfl ?_ ?_
  · exact kt
  · exact kf
theorem BX13_canToss_21 {d bc bs : Nat} {h : aH} {n : Nat} {Q : aQ} {ar0 at3 : Nat} {x1 x2 v7 : Int} {f1 : List aV} {w5 : List Int} (h2 : h ar0 = cO 13 f1) (g4 : f1[0]? = some (vR (some at3))) (h6 : h at3 = cI w5) (g8 : w5[(9 : Int).toNat]? = some v7) (kt : 12 ≤ v7 → Rn d bc bs mX13_canToss 37 [some (vR (some ar0)), some (vI x1), some (vI x2)] [] h n Q) (kf : v7 < 12 → Rn d bc bs mX13_canToss 33 [some (vR (some ar0)), some (vI x1), some (vI x2)] [] h n Q) : Rn d (bc) (bs) mX13_canToss 21 [some (vR (some ar0)), some (vI x1), some (vI x2)] [] h n Q := by
  refine Rn_aload_n dX13_canToss_21 rfl rfl rfl ?_
  refine Rn_getfield (ci := 13) (k := 0) dX13_canToss_22 rfl in_13 (Nat.le_of_ble_eq_true rfl) wd_1352 rfl h2 g4 ?_
  refine Rn_bipush dX13_canToss_25 rfl ?_
  refine Rn_iaload dX13_canToss_27 h6 (by decide) g8 ?_
  refine Rn_bipush dX13_canToss_28 rfl ?_
  refine Rn_icmpge (tgt := 37) dX13_canToss_30 rfl ?_ ?_
  · exact kt
  · exact kf
theorem BX13_canToss_33 {d bc bs : Nat} {h : aH} {n : Nat} {Q : aQ} {r0 : Option Nat} {x1 x2 : Int} (k : Q (some (vI 1)) h n) : Rn d (bc) (bs) mX13_canToss 33 [some (vR r0), some (vI x1), some (vI x2)] [] h n Q := by
  refine Rn_iconst dX13_canToss_33 rfl ?_
  refine Rn_goto (tgt := 38) dX13_canToss_34 rfl ?_
  exact Rn_zreturn rfl dX13_canToss_38 (by decide) k
theorem BX13_canToss_37 {d bc bs : Nat} {h : aH} {n : Nat} {Q : aQ} {r0 : Option Nat} {x1 x2 : Int} (k : Q (some (vI 0)) h n) : Rn d (bc) (bs) mX13_canToss 37 [some (vR r0), some (vI x1), some (vI x2)] [] h n Q := by
  refine Rn_iconst dX13_canToss_37 rfl ?_
  exact Rn_zreturn rfl dX13_canToss_38 (by decide) k
theorem dX13_tossNow_0 : decode cX13_tossNow 0 = .ok (.aload_n 0, 1) := by decide +kernel
theorem dX13_tossNow_1 : decode cX13_tossNow 1 = .ok (.getfield 7, 3) := by decide +kernel
theorem dX13_tossNow_4 : decode cX13_tossNow 4 = .ok (.bipush 9, 2) := by decide +kernel
theorem dX13_tossNow_6 : decode cX13_tossNow 6 = .ok (.iaload, 1) := by decide +kernel
theorem dX13_tossNow_7 : decode cX13_tossNow 7 = .ok (.istore 4, 2) := by decide +kernel
theorem dX13_tossNow_9 : decode cX13_tossNow 9 = .ok (.aload_n 0, 1) := by decide +kernel
theorem dX13_tossNow_10 : decode cX13_tossNow 10 = .ok (.iload 4, 2) := by decide +kernel
theorem dX13_tossNow_12 : decode cX13_tossNow 12 = .ok (.iconst 0, 1) := by decide +kernel
theorem dX13_tossNow_13 : decode cX13_tossNow 13 = .ok (.iload_n 1, 1) := by decide +kernel
theorem dX13_tossNow_14 : decode cX13_tossNow 14 = .ok (.invokevirtual 315, 3) := by decide +kernel
theorem dX13_tossNow_17 : decode cX13_tossNow 17 = .ok (.aload_n 0, 1) := by decide +kernel
theorem dX13_tossNow_18 : decode cX13_tossNow 18 = .ok (.iload 4, 2) := by decide +kernel
theorem dX13_tossNow_20 : decode cX13_tossNow 20 = .ok (.iconst 1, 1) := by decide +kernel
theorem dX13_tossNow_21 : decode cX13_tossNow 21 = .ok (.iload_n 2, 1) := by decide +kernel
theorem dX13_tossNow_22 : decode cX13_tossNow 22 = .ok (.invokevirtual 315, 3) := by decide +kernel
theorem dX13_tossNow_25 : decode cX13_tossNow 25 = .ok (.aload_n 0, 1) := by decide +kernel
theorem dX13_tossNow_26 : decode cX13_tossNow 26 = .ok (.iload 4, 2) := by decide +kernel
theorem dX13_tossNow_28 : decode cX13_tossNow 28 = .ok (.iconst 2, 1) := by decide +kernel
theorem dX13_tossNow_29 : decode cX13_tossNow 29 = .ok (.aload_n 0, 1) := by decide +kernel
theorem dX13_tossNow_30 : decode cX13_tossNow 30 = .ok (.iload_n 1, 1) := by decide +kernel
theorem dX13_tossNow_31 : decode cX13_tossNow 31 = .ok (.iconst 0, 1) := by decide +kernel
theorem dX13_tossNow_32 : decode cX13_tossNow 32 = .ok (.invokevirtual 267, 3) := by decide +kernel
theorem dX13_tossNow_35 : decode cX13_tossNow 35 = .ok (.invokevirtual 315, 3) := by decide +kernel
theorem dX13_tossNow_38 : decode cX13_tossNow 38 = .ok (.aload_n 0, 1) := by decide +kernel
theorem dX13_tossNow_39 : decode cX13_tossNow 39 = .ok (.iload 4, 2) := by decide +kernel
theorem dX13_tossNow_41 : decode cX13_tossNow 41 = .ok (.iconst 3, 1) := by decide +kernel
theorem dX13_tossNow_42 : decode cX13_tossNow 42 = .ok (.iload_n 3, 1) := by decide +kernel
theorem dX13_tossNow_43 : decode cX13_tossNow 43 = .ok (.invokevirtual 315, 3) := by decide +kernel
theorem dX13_tossNow_46 : decode cX13_tossNow 46 = .ok (.aload_n 0, 1) := by decide +kernel
theorem dX13_tossNow_47 : decode cX13_tossNow 47 = .ok (.iload 4, 2) := by decide +kernel
theorem dX13_tossNow_49 : decode cX13_tossNow 49 = .ok (.iconst 4, 1) := by decide +kernel
theorem dX13_tossNow_50 : decode cX13_tossNow 50 = .ok (.iconst 0, 1) := by decide +kernel
theorem dX13_tossNow_51 : decode cX13_tossNow 51 = .ok (.invokevirtual 315, 3) := by decide +kernel
theorem dX13_tossNow_54 : decode cX13_tossNow 54 = .ok (.aload_n 0, 1) := by decide +kernel
theorem dX13_tossNow_55 : decode cX13_tossNow 55 = .ok (.iload 4, 2) := by decide +kernel
theorem dX13_tossNow_57 : decode cX13_tossNow 57 = .ok (.iconst 5, 1) := by decide +kernel
theorem dX13_tossNow_58 : decode cX13_tossNow 58 = .ok (.aload_n 0, 1) := by decide +kernel
theorem dX13_tossNow_59 : decode cX13_tossNow 59 = .ok (.getfield 7, 3) := by decide +kernel
theorem dX13_tossNow_62 : decode cX13_tossNow 62 = .ok (.bipush 7, 2) := by decide +kernel
theorem dX13_tossNow_64 : decode cX13_tossNow 64 = .ok (.iaload, 1) := by decide +kernel
theorem dX13_tossNow_65 : decode cX13_tossNow 65 = .ok (.invokevirtual 315, 3) := by decide +kernel
theorem dX13_tossNow_68 : decode cX13_tossNow 68 = .ok (.aload_n 0, 1) := by decide +kernel
theorem dX13_tossNow_69 : decode cX13_tossNow 69 = .ok (.getfield 7, 3) := by decide +kernel
theorem dX13_tossNow_72 : decode cX13_tossNow 72 = .ok (.bipush 9, 2) := by decide +kernel
theorem dX13_tossNow_74 : decode cX13_tossNow 74 = .ok (.dup2, 1) := by decide +kernel
theorem dX13_tossNow_75 : decode cX13_tossNow 75 = .ok (.iaload, 1) := by decide +kernel
theorem dX13_tossNow_76 : decode cX13_tossNow 76 = .ok (.iconst 1, 1) := by decide +kernel
theorem dX13_tossNow_77 : decode cX13_tossNow 77 = .ok (.iadd, 1) := by decide +kernel
theorem dX13_tossNow_78 : decode cX13_tossNow 78 = .ok (.iastore, 1) := by decide +kernel
theorem dX13_tossNow_79 : decode cX13_tossNow 79 = .ok (.return_, 1) := by decide +kernel
theorem BX13_tossNow_0 {d bc bs : Nat} {h : aH} {n : Nat} {Q : aQ} {ar0 at3 : Nat} {x1 x2 x3 v7 : Int} {l4 : Option aV} {f1 : List aV} {w5 : List Int} (h2 : h ar0 = cO 13 f1) (g4 : f1[0]? = some (vR (some at3))) (h6 : h at3 = cI w5) (g8 : w5[(9 : Int).toNat]? = some v7) (k : Rn d 0 0 mX13_put 0 [some (vR (some ar0)), some (vI v7), some (vI 0), some (vI x1)] [] h n (fun v h1 n1 => Rn (d + 1) bc bs mX13_tossNow 17 [some (vR (some ar0)), some (vI x1), some (vI x2), some (vI x3), some (vI v7)] (v.toList ++ []) h1 n1 Q)) : Rn (d + 1) (bc) (bs) mX13_tossNow 0 [some (vR (some ar0)), some (vI x1), some (vI x2), some (vI x3), l4] [] h n Q := by
  refine Rn_aload_n dX13_tossNow_0 rfl rfl rfl ?_
  refine Rn_getfield (ci := 13) (k := 0) dX13_tossNow_1 rfl in_13 (Nat.le_of_ble_eq_true rfl) wd_1352 rfl h2 g4 ?_
  refine Rn_bipush dX13_tossNow_4 rfl ?_
  refine Rn_iaload dX13_tossNow_6 h6 (by decide) g8 ?_
  refine Rn_istore dX13_tossNow_7 (Nat.le_of_ble_eq_true rfl) rfl rfl ?_
  refine Rn_aload_n dX13_tossNow_9 rfl rfl rfl ?_
  refine Rn_iload dX13_tossNow_10 rfl ?_
  refine Rn_iconst dX13_tossNow_12 rfl ?_
  refine Rn_iload_n dX13_tossNow_13 rfl rfl ?_
  exact Rn_callV (ci := 13) (avs := [vI v7, vI 0, vI x1]) (st := []) (bc1 := 0) (bs1 := 0) (bc2 := bc) (bs2 := bs) fx_X13_put dX13_tossNow_14 wd_1658 wd_1660 wd_77 rfl h2 rfl (Nat.le_of_ble_eq_true rfl) (Nat.le_of_ble_eq_true rfl) (by omega) (by omega) (ls1 := [some (vR (some ar0)), some (vI v7), some (vI 0), some (vI x1)]) rfl k
theorem BX13_tossNow_17 {d bc bs : Nat} {h : aH} {n : Nat} {Q : aQ} {ar0 : Nat} {x1 x2 x3 x4 : Int} {f1 : List aV} (h2 : h ar0 = cO 13 f1) (k : Rn d 0 0 mX13_put 0 [some (vR (some ar0)), some (vI x4), some (vI 1), some (vI x2)] [] h n (fun v h1 n1 => Rn (d + 1) bc bs mX13_tossNow 25 [some (vR (some ar0)), some (vI x1), some (vI x2), some (vI x3), some (vI x4)] (v.toList ++ []) h1 n1 Q)) : Rn (d + 1) (bc) (bs) mX13_tossNow 17 [some (vR (some ar0)), some (vI x1), some (vI x2), some (vI x3), some (vI x4)] [] h n Q := by
  refine Rn_aload_n dX13_tossNow_17 rfl rfl rfl ?_
  refine Rn_iload dX13_tossNow_18 rfl ?_
  refine Rn_iconst dX13_tossNow_20 rfl ?_
  refine Rn_iload_n dX13_tossNow_21 rfl rfl ?_
  exact Rn_callV (ci := 13) (avs := [vI x4, vI 1, vI x2]) (st := []) (bc1 := 0) (bs1 := 0) (bc2 := bc) (bs2 := bs) fx_X13_put dX13_tossNow_22 wd_1658 wd_1660 wd_77 rfl h2 rfl (Nat.le_of_ble_eq_true rfl) (Nat.le_of_ble_eq_true rfl) (by omega) (by omega) (ls1 := [some (vR (some ar0)), some (vI x4), some (vI 1), some (vI x2)]) rfl k
theorem BX13_tossNow_25 {d bc bs : Nat} {h : aH} {n : Nat} {Q : aQ} {ar0 : Nat} {x1 x2 x3 x4 : Int} {f1 : List aV} (h2 : h ar0 = cO 13 f1) (k : Rn d 0 0 mX13_own 0 [some (vR (some ar0)), some (vI x1), some (vI 0)] [] h n (fun v h1 n1 => Rn (d + 1) bc bs mX13_tossNow 35 [some (vR (some ar0)), some (vI x1), some (vI x2), some (vI x3), some (vI x4)] (v.toList ++ [vI 2, vI x4, vR (some ar0)]) h1 n1 Q)) : Rn (d + 1) (bc) (bs) mX13_tossNow 25 [some (vR (some ar0)), some (vI x1), some (vI x2), some (vI x3), some (vI x4)] [] h n Q := by
  refine Rn_aload_n dX13_tossNow_25 rfl rfl rfl ?_
  refine Rn_iload dX13_tossNow_26 rfl ?_
  refine Rn_iconst dX13_tossNow_28 rfl ?_
  refine Rn_aload_n dX13_tossNow_29 rfl rfl rfl ?_
  refine Rn_iload_n dX13_tossNow_30 rfl rfl ?_
  refine Rn_iconst dX13_tossNow_31 rfl ?_
  exact Rn_callV (ci := 13) (avs := [vI x1, vI 0]) (st := [vI 2, vI x4, vR (some ar0)]) (bc1 := 0) (bs1 := 0) (bc2 := bc) (bs2 := bs) fx_X13_own dX13_tossNow_32 wd_1662 wd_1664 wd_78 rfl h2 rfl (Nat.le_of_ble_eq_true rfl) (Nat.le_of_ble_eq_true rfl) (by omega) (by omega) (ls1 := [some (vR (some ar0)), some (vI x1), some (vI 0)]) rfl k
theorem BX13_tossNow_35 {d bc bs : Nat} {h : aH} {n : Nat} {Q : aQ} {r0 : Option Nat} {x1 x2 x3 x4 s1 s2 s3 : Int} {aq0 : Nat} {f1 : List aV} (h2 : h aq0 = cO 13 f1) (k : Rn d 0 0 mX13_put 0 [some (vR (some aq0)), some (vI s1), some (vI s2), some (vI s3)] [] h n (fun v h1 n1 => Rn (d + 1) bc bs mX13_tossNow 38 [some (vR r0), some (vI x1), some (vI x2), some (vI x3), some (vI x4)] (v.toList ++ []) h1 n1 Q)) : Rn (d + 1) (bc) (bs) mX13_tossNow 35 [some (vR r0), some (vI x1), some (vI x2), some (vI x3), some (vI x4)] [vI s3, vI s2, vI s1, vR (some aq0)] h n Q := by
  exact Rn_callV (ci := 13) (avs := [vI s1, vI s2, vI s3]) (st := []) (bc1 := 0) (bs1 := 0) (bc2 := bc) (bs2 := bs) fx_X13_put dX13_tossNow_35 wd_1658 wd_1660 wd_77 rfl h2 rfl (Nat.le_of_ble_eq_true rfl) (Nat.le_of_ble_eq_true rfl) (by omega) (by omega) (ls1 := [some (vR (some aq0)), some (vI s1), some (vI s2), some (vI s3)]) rfl k
theorem BX13_tossNow_38 {d bc bs : Nat} {h : aH} {n : Nat} {Q : aQ} {ar0 : Nat} {x1 x2 x3 x4 : Int} {f1 : List aV} (h2 : h ar0 = cO 13 f1) (k : Rn d 0 0 mX13_put 0 [some (vR (some ar0)), some (vI x4), some (vI 3), some (vI x3)] [] h n (fun v h1 n1 => Rn (d + 1) bc bs mX13_tossNow 46 [some (vR (some ar0)), some (vI x1), some (vI x2), some (vI x3), some (vI x4)] (v.toList ++ []) h1 n1 Q)) : Rn (d + 1) (bc) (bs) mX13_tossNow 38 [some (vR (some ar0)), some (vI x1), some (vI x2), some (vI x3), some (vI x4)] [] h n Q := by
  refine Rn_aload_n dX13_tossNow_38 rfl rfl rfl ?_
  refine Rn_iload dX13_tossNow_39 rfl ?_
  refine Rn_iconst dX13_tossNow_41 rfl ?_
  refine Rn_iload_n dX13_tossNow_42 rfl rfl ?_
  exact Rn_callV (ci := 13) (avs := [vI x4, vI 3, vI x3]) (st := []) (bc1 := 0) (bs1 := 0) (bc2 := bc) (bs2 := bs) fx_X13_put dX13_tossNow_43 wd_1658 wd_1660 wd_77 rfl h2 rfl (Nat.le_of_ble_eq_true rfl) (Nat.le_of_ble_eq_true rfl) (by omega) (by omega) (ls1 := [some (vR (some ar0)), some (vI x4), some (vI 3), some (vI x3)]) rfl k
theorem BX13_tossNow_46 {d bc bs : Nat} {h : aH} {n : Nat} {Q : aQ} {ar0 : Nat} {x1 x2 x3 x4 : Int} {f1 : List aV} (h2 : h ar0 = cO 13 f1) (k : Rn d 0 0 mX13_put 0 [some (vR (some ar0)), some (vI x4), some (vI 4), some (vI 0)] [] h n (fun v h1 n1 => Rn (d + 1) bc bs mX13_tossNow 54 [some (vR (some ar0)), some (vI x1), some (vI x2), some (vI x3), some (vI x4)] (v.toList ++ []) h1 n1 Q)) : Rn (d + 1) (bc) (bs) mX13_tossNow 46 [some (vR (some ar0)), some (vI x1), some (vI x2), some (vI x3), some (vI x4)] [] h n Q := by
  refine Rn_aload_n dX13_tossNow_46 rfl rfl rfl ?_
  refine Rn_iload dX13_tossNow_47 rfl ?_
  refine Rn_iconst dX13_tossNow_49 rfl ?_
  refine Rn_iconst dX13_tossNow_50 rfl ?_
  exact Rn_callV (ci := 13) (avs := [vI x4, vI 4, vI 0]) (st := []) (bc1 := 0) (bs1 := 0) (bc2 := bc) (bs2 := bs) fx_X13_put dX13_tossNow_51 wd_1658 wd_1660 wd_77 rfl h2 rfl (Nat.le_of_ble_eq_true rfl) (Nat.le_of_ble_eq_true rfl) (by omega) (by omega) (ls1 := [some (vR (some ar0)), some (vI x4), some (vI 4), some (vI 0)]) rfl k
theorem BX13_tossNow_54 {d bc bs : Nat} {h : aH} {n : Nat} {Q : aQ} {ar0 at3 : Nat} {x1 x2 x3 x4 v7 : Int} {f1 : List aV} {w5 : List Int} (h2 : h ar0 = cO 13 f1) (g4 : f1[0]? = some (vR (some at3))) (h6 : h at3 = cI w5) (g8 : w5[(7 : Int).toNat]? = some v7) (k : Rn d 0 0 mX13_put 0 [some (vR (some ar0)), some (vI x4), some (vI 5), some (vI v7)] [] h n (fun v h1 n1 => Rn (d + 1) bc bs mX13_tossNow 68 [some (vR (some ar0)), some (vI x1), some (vI x2), some (vI x3), some (vI x4)] (v.toList ++ []) h1 n1 Q)) : Rn (d + 1) (bc) (bs) mX13_tossNow 54 [some (vR (some ar0)), some (vI x1), some (vI x2), some (vI x3), some (vI x4)] [] h n Q := by
  refine Rn_aload_n dX13_tossNow_54 rfl rfl rfl ?_
  refine Rn_iload dX13_tossNow_55 rfl ?_
  refine Rn_iconst dX13_tossNow_57 rfl ?_
  refine Rn_aload_n dX13_tossNow_58 rfl rfl rfl ?_
  refine Rn_getfield (ci := 13) (k := 0) dX13_tossNow_59 rfl in_13 (Nat.le_of_ble_eq_true rfl) wd_1352 rfl h2 g4 ?_
  refine Rn_bipush dX13_tossNow_62 rfl ?_
  refine Rn_iaload dX13_tossNow_64 h6 (by decide) g8 ?_
  exact Rn_callV (ci := 13) (avs := [vI x4, vI 5, vI v7]) (st := []) (bc1 := 0) (bs1 := 0) (bc2 := bc) (bs2 := bs) fx_X13_put dX13_tossNow_65 wd_1658 wd_1660 wd_77 rfl h2 rfl (Nat.le_of_ble_eq_true rfl) (Nat.le_of_ble_eq_true rfl) (by omega) (by omega) (ls1 := [some (vR (some ar0)), some (vI x4), some (vI 5), some (vI v7)]) rfl k
theorem BX13_tossNow_68 {d bc bs : Nat} {h : aH} {n : Nat} {Q : aQ} {ar0 at3 : Nat} {x1 x2 x3 x4 v7 : Int} {f1 : List aV} {w5 : List Int} (h2 : h ar0 = cO 13 f1) (g4 : f1[0]? = some (vR (some at3))) (h6 : h at3 = cI w5) (g8 : w5[(9 : Int).toNat]? = some v7) (b9 : -2147483648 ≤ v7 + 1 ∧ v7 + 1 < 2147483648) (j10 : (9 : Int) < w5.length) (z11 : at3 ≠ 0) (k : Rn d bc bs mX13_tossNow 79 [some (vR (some ar0)), some (vI x1), some (vI x2), some (vI x3), some (vI x4)] [] (up h at3 (cI (w5.set (9 : Int).toNat (v7 + 1)))) n Q) : Rn d (bc) (bs) mX13_tossNow 68 [some (vR (some ar0)), some (vI x1), some (vI x2), some (vI x3), some (vI x4)] [] h n Q := by
  refine Rn_aload_n dX13_tossNow_68 rfl rfl rfl ?_
  refine Rn_getfield (ci := 13) (k := 0) dX13_tossNow_69 rfl in_13 (Nat.le_of_ble_eq_true rfl) wd_1352 rfl h2 g4 ?_
  refine Rn_bipush dX13_tossNow_72 rfl ?_
  refine Rn_dup2 dX13_tossNow_74 rfl rfl ?_
  refine Rn_iaload dX13_tossNow_75 h6 (by decide) g8 ?_
  refine Rn_iconst dX13_tossNow_76 rfl ?_
  refine Rn_iadd dX13_tossNow_77 ?_
  rw [w32_id b9.1 b9.2]
  refine Rn_iastore dX13_tossNow_78 z11 h6 (by decide) j10 ?_
  exact k
theorem BX13_tossNow_79 {d bc bs : Nat} {h : aH} {n : Nat} {Q : aQ} {r0 : Option Nat} {x1 x2 x3 x4 : Int} (k : Q none h n) : Rn d (bc) (bs) mX13_tossNow 79 [some (vR r0), some (vI x1), some (vI x2), some (vI x3), some (vI x4)] [] h n Q := by
  exact Rn_return rfl dX13_tossNow_79 k
theorem dX13_toss_0 : decode cX13_toss 0 = .ok (.aload_n 0, 1) := by decide +kernel
theorem dX13_toss_1 : decode cX13_toss 1 = .ok (.iload_n 1, 1) := by decide +kernel
theorem dX13_toss_2 : decode cX13_toss 2 = .ok (.iload_n 2, 1) := by decide +kernel
theorem dX13_toss_3 : decode cX13_toss 3 = .ok (.invokevirtual 346, 3) := by decide +kernel
theorem dX13_toss_6 : decode cX13_toss 6 = .ok (.ifCond .eq 13, 3) := by decide +kernel
theorem dX13_toss_9 : decode cX13_toss 9 = .ok (.iload_n 3, 1) := by decide +kernel
theorem dX13_toss_10 : decode cX13_toss 10 = .ok (.iconst 1, 1) := by decide +kernel
theorem dX13_toss_11 : decode cX13_toss 11 = .ok (.bipush 99, 2) := by decide +kernel
theorem dX13_toss_13 : decode cX13_toss 13 = .ok (.invokestatic 72, 3) := by decide +kernel
theorem dX13_toss_16 : decode cX13_toss 16 = .ok (.ifCond .ne 5, 3) := by decide +kernel
theorem dX13_toss_19 : decode cX13_toss 19 = .ok (.iconst (-1), 1) := by decide +kernel
theorem dX13_toss_20 : decode cX13_toss 20 = .ok (.ireturn, 1) := by decide +kernel
theorem dX13_toss_21 : decode cX13_toss 21 = .ok (.aload_n 0, 1) := by decide +kernel
theorem dX13_toss_22 : decode cX13_toss 22 = .ok (.invokevirtual 349, 3) := by decide +kernel
theorem dX13_toss_25 : decode cX13_toss 25 = .ok (.aload_n 0, 1) := by decide +kernel
theorem dX13_toss_26 : decode cX13_toss 26 = .ok (.iload_n 1, 1) := by decide +kernel
theorem dX13_toss_27 : decode cX13_toss 27 = .ok (.iload_n 2, 1) := by decide +kernel
theorem dX13_toss_28 : decode cX13_toss 28 = .ok (.iload_n 3, 1) := by decide +kernel
theorem dX13_toss_29 : decode cX13_toss 29 = .ok (.invokevirtual 352, 3) := by decide +kernel
theorem dX13_toss_32 : decode cX13_toss 32 = .ok (.aload_n 0, 1) := by decide +kernel
theorem dX13_toss_33 : decode cX13_toss 33 = .ok (.getfield 7, 3) := by decide +kernel
theorem dX13_toss_36 : decode cX13_toss 36 = .ok (.bipush 9, 2) := by decide +kernel
theorem dX13_toss_38 : decode cX13_toss 38 = .ok (.iaload, 1) := by decide +kernel
theorem dX13_toss_39 : decode cX13_toss 39 = .ok (.iconst 1, 1) := by decide +kernel
theorem dX13_toss_40 : decode cX13_toss 40 = .ok (.isub, 1) := by decide +kernel
theorem dX13_toss_41 : decode cX13_toss 41 = .ok (.ireturn, 1) := by decide +kernel
theorem BX13_toss_0 {d bc bs : Nat} {h : aH} {n : Nat} {Q : aQ} {ar0 : Nat} {x1 x2 x3 : Int} {f1 : List aV} (h2 : h ar0 = cO 13 f1) (k : Rn d 0 0 mX13_canToss 0 [some (vR (some ar0)), some (vI x1), some (vI x2)] [] h n (fun v h1 n1 => Rn (d + 1) bc bs mX13_toss 6 [some (vR (some ar0)), some (vI x1), some (vI x2), some (vI x3)] (v.toList ++ []) h1 n1 Q)) : Rn (d + 1) (bc) (bs) mX13_toss 0 [some (vR (some ar0)), some (vI x1), some (vI x2), some (vI x3)] [] h n Q := by
  refine Rn_aload_n dX13_toss_0 rfl rfl rfl ?_
  refine Rn_iload_n dX13_toss_1 rfl rfl ?_
  refine Rn_iload_n dX13_toss_2 rfl rfl ?_
  exact Rn_callV (ci := 13) (avs := [vI x1, vI x2]) (st := []) (bc1 := 0) (bs1 := 0) (bc2 := bc) (bs2 := bs) fx_X13_canToss dX13_toss_3 wd_1642 wd_1644 wd_73 rfl h2 rfl (Nat.le_of_ble_eq_true rfl) (Nat.le_of_ble_eq_true rfl) (by omega) (by omega) (ls1 := [some (vR (some ar0)), some (vI x1), some (vI x2)]) rfl k
theorem BX13_toss_6 {d bc bs : Nat} {h : aH} {n : Nat} {Q : aQ} {r0 : Option Nat} {x1 x2 x3 s0 : Int} (kt : s0 = 0 → Rn d bc bs mX13_toss 19 [some (vR r0), some (vI x1), some (vI x2), some (vI x3)] [] h n Q) (kf : s0 ≠ 0 → Rn d bc bs mX13_toss 9 [some (vR r0), some (vI x1), some (vI x2), some (vI x3)] [] h n Q) : Rn d (bc) (bs) mX13_toss 6 [some (vR r0), some (vI x1), some (vI x2), some (vI x3)] [vI s0] h n Q := by
  refine Rn_ifeq (tgt := 19) dX13_toss_6 rfl ?_ ?_
  · exact kt
  · exact kf
theorem BX13_toss_9 {d bc bs : Nat} {h : aH} {n : Nat} {Q : aQ} {r0 : Option Nat} {x1 x2 x3 : Int} (k : Rn d 0 0 mX13_isIn 0 [some (vI x3), some (vI 1), some (vI 99)] [] h n (fun v h1 n1 => Rn (d + 1) bc bs mX13_toss 16 [some (vR r0), some (vI x1), some (vI x2), some (vI x3)] (v.toList ++ []) h1 n1 Q)) : Rn (d + 1) (bc) (bs) mX13_toss 9 [some (vR r0), some (vI x1), some (vI x2), some (vI x3)] [] h n Q := by
  refine Rn_iload_n dX13_toss_9 rfl rfl ?_
  refine Rn_iconst dX13_toss_10 rfl ?_
  refine Rn_bipush dX13_toss_11 rfl ?_
  exact Rn_callS (avs := [vI x3, vI 1, vI 99]) (st := []) (bc1 := 0) (bs1 := 0) (bc2 := bc) (bs2 := bs) fx_X13_isIn dX13_toss_13 (Or.inl wd_1463) wd_1464 rfl (Nat.le_of_ble_eq_true rfl) (Nat.le_of_ble_eq_true rfl) (by omega) (by omega) (ls1 := [some (vI x3), some (vI 1), some (vI 99)]) rfl k
theorem BX13_toss_16 {d bc bs : Nat} {h : aH} {n : Nat} {Q : aQ} {r0 : Option Nat} {x1 x2 x3 s0 : Int} (kt : s0 ≠ 0 → Rn d bc bs mX13_toss 21 [some (vR r0), some (vI x1), some (vI x2), some (vI x3)] [] h n Q) (kf : s0 = 0 → Rn d bc bs mX13_toss 19 [some (vR r0), some (vI x1), some (vI x2), some (vI x3)] [] h n Q) : Rn d (bc) (bs) mX13_toss 16 [some (vR r0), some (vI x1), some (vI x2), some (vI x3)] [vI s0] h n Q := by
  refine Rn_ifne (tgt := 21) dX13_toss_16 rfl ?_ ?_
  · exact kt
  · exact kf
theorem BX13_toss_19 {d bc bs : Nat} {h : aH} {n : Nat} {Q : aQ} {r0 : Option Nat} {x1 x2 x3 : Int} (k : Q (some (vI (-1))) h n) : Rn d (bc) (bs) mX13_toss 19 [some (vR r0), some (vI x1), some (vI x2), some (vI x3)] [] h n Q := by
  refine Rn_iconst dX13_toss_19 rfl ?_
  exact Rn_ireturn rfl dX13_toss_20 k
theorem BX13_toss_21 {d bc bs : Nat} {h : aH} {n : Nat} {Q : aQ} {ar0 : Nat} {x1 x2 x3 : Int} {f1 : List aV} (h2 : h ar0 = cO 13 f1) (k : Rn d 0 0 mX13_keep 0 [some (vR (some ar0)), none, none] [] h n (fun v h1 n1 => Rn (d + 1) bc bs mX13_toss 25 [some (vR (some ar0)), some (vI x1), some (vI x2), some (vI x3)] (v.toList ++ []) h1 n1 Q)) : Rn (d + 1) (bc) (bs) mX13_toss 21 [some (vR (some ar0)), some (vI x1), some (vI x2), some (vI x3)] [] h n Q := by
  refine Rn_aload_n dX13_toss_21 rfl rfl rfl ?_
  exact Rn_callV (ci := 13) (avs := []) (st := []) (bc1 := 0) (bs1 := 0) (bc2 := bc) (bs2 := bs) fx_X13_keep dX13_toss_22 wd_1650 wd_1652 wd_75 rfl h2 rfl (Nat.le_of_ble_eq_true rfl) (Nat.le_of_ble_eq_true rfl) (by omega) (by omega) (ls1 := [some (vR (some ar0)), none, none]) rfl k
theorem BX13_toss_25 {d bc bs : Nat} {h : aH} {n : Nat} {Q : aQ} {ar0 : Nat} {x1 x2 x3 : Int} {f1 : List aV} (h2 : h ar0 = cO 13 f1) (k : Rn d 0 0 mX13_tossNow 0 [some (vR (some ar0)), some (vI x1), some (vI x2), some (vI x3), none] [] h n (fun v h1 n1 => Rn (d + 1) bc bs mX13_toss 32 [some (vR (some ar0)), some (vI x1), some (vI x2), some (vI x3)] (v.toList ++ []) h1 n1 Q)) : Rn (d + 1) (bc) (bs) mX13_toss 25 [some (vR (some ar0)), some (vI x1), some (vI x2), some (vI x3)] [] h n Q := by
  refine Rn_aload_n dX13_toss_25 rfl rfl rfl ?_
  refine Rn_iload_n dX13_toss_26 rfl rfl ?_
  refine Rn_iload_n dX13_toss_27 rfl rfl ?_
  refine Rn_iload_n dX13_toss_28 rfl rfl ?_
  exact Rn_callV (ci := 13) (avs := [vI x1, vI x2, vI x3]) (st := []) (bc1 := 0) (bs1 := 0) (bc2 := bc) (bs2 := bs) fx_X13_tossNow dX13_toss_29 wd_1654 wd_1656 wd_76 rfl h2 rfl (Nat.le_of_ble_eq_true rfl) (Nat.le_of_ble_eq_true rfl) (by omega) (by omega) (ls1 := [some (vR (some ar0)), some (vI x1), some (vI x2), some (vI x3), none]) rfl k
theorem BX13_toss_32 {d bc bs : Nat} {h : aH} {n : Nat} {Q : aQ} {ar0 at3 : Nat} {x1 x2 x3 v7 : Int} {f1 : List aV} {w5 : List Int} (h2 : h ar0 = cO 13 f1) (g4 : f1[0]? = some (vR (some at3))) (h6 : h at3 = cI w5) (g8 : w5[(9 : Int).toNat]? = some v7) (b9 : -2147483648 ≤ v7 - 1 ∧ v7 - 1 < 2147483648) (k : Q (some (vI (v7 - 1))) h n) : Rn d (bc) (bs) mX13_toss 32 [some (vR (some ar0)), some (vI x1), some (vI x2), some (vI x3)] [] h n Q := by
  refine Rn_aload_n dX13_toss_32 rfl rfl rfl ?_
  refine Rn_getfield (ci := 13) (k := 0) dX13_toss_33 rfl in_13 (Nat.le_of_ble_eq_true rfl) wd_1352 rfl h2 g4 ?_
  refine Rn_bipush dX13_toss_36 rfl ?_
  refine Rn_iaload dX13_toss_38 h6 (by decide) g8 ?_
  refine Rn_iconst dX13_toss_39 rfl ?_
  refine Rn_isub dX13_toss_40 ?_
  rw [w32_id b9.1 b9.2]
  exact Rn_ireturn rfl dX13_toss_41 k
theorem dX13_canFish_0 : decode cX13_canFish 0 = .ok (.aload_n 0, 1) := by decide +kernel
theorem dX13_canFish_1 : decode cX13_canFish 1 = .ok (.iload_n 1, 1) := by decide +kernel
theorem dX13_canFish_2 : decode cX13_canFish 2 = .ok (.invokevirtual 296, 3) := by decide +kernel
theorem dX13_canFish_5 : decode cX13_canFish 5 = .ok (.ifCond .eq 40, 3) := by decide +kernel
theorem dX13_canFish_8 : decode cX13_canFish 8 = .ok (.aload_n 0, 1) := by decide +kernel
theorem dX13_canFish_9 : decode cX13_canFish 9 = .ok (.iload_n 2, 1) := by decide +kernel
theorem dX13_canFish_10 : decode cX13_canFish 10 = .ok (.invokevirtual 343, 3) := by decide +kernel
theorem dX13_canFish_13 : decode cX13_canFish 13 = .ok (.ifCond .eq 32, 3) := by decide +kernel
theorem dX13_canFish_16 : decode cX13_canFish 16 = .ok (.aload_n 0, 1) := by decide +kernel
theorem dX13_canFish_17 : decode cX13_canFish 17 = .ok (.iload_n 1, 1) := by decide +kernel
theorem dX13_canFish_18 : decode cX13_canFish 18 = .ok (.iconst 2, 1) := by decide +kernel
theorem dX13_canFish_19 : decode cX13_canFish 19 = .ok (.invokevirtual 80, 3) := by decide +kernel
theorem dX13_canFish_22 : decode cX13_canFish 22 = .ok (.aload_n 0, 1) := by decide +kernel
theorem dX13_canFish_23 : decode cX13_canFish 23 = .ok (.iload_n 2, 1) := by decide +kernel
theorem dX13_canFish_24 : decode cX13_canFish 24 = .ok (.iconst 0, 1) := by decide +kernel
theorem dX13_canFish_25 : decode cX13_canFish 25 = .ok (.invokevirtual 267, 3) := by decide +kernel
theorem dX13_canFish_28 : decode cX13_canFish 28 = .ok (.if_icmp .ne 17, 3) := by decide +kernel
theorem dX13_canFish_31 : decode cX13_canFish 31 = .ok (.aload_n 0, 1) := by decide +kernel
theorem dX13_canFish_32 : decode cX13_canFish 32 = .ok (.iload_n 1, 1) := by decide +kernel
theorem dX13_canFish_33 : decode cX13_canFish 33 = .ok (.iconst 0, 1) := by decide +kernel
theorem dX13_canFish_34 : decode cX13_canFish 34 = .ok (.invokevirtual 80, 3) := by decide +kernel
theorem dX13_canFish_37 : decode cX13_canFish 37 = .ok (.iload_n 2, 1) := by decide +kernel
theorem dX13_canFish_38 : decode cX13_canFish 38 = .ok (.if_icmp .eq 7, 3) := by decide +kernel
theorem dX13_canFish_41 : decode cX13_canFish 41 = .ok (.iconst 1, 1) := by decide +kernel
theorem dX13_canFish_42 : decode cX13_canFish 42 = .ok (.goto 4, 3) := by decide +kernel
theorem dX13_canFish_45 : decode cX13_canFish 45 = .ok (.iconst 0, 1) := by decide +kernel
theorem dX13_canFish_46 : decode cX13_canFish 46 = .ok (.ireturn, 1) := by decide +kernel
theorem BX13_canFish_0 {d bc bs : Nat} {h : aH} {n : Nat} {Q : aQ} {ar0 : Nat} {x1 x2 : Int} {f1 : List aV} (h2 : h ar0 = cO 13 f1) (k : Rn d 0 0 mX13_isAfloat 0 [some (vR (some ar0)), some (vI x1)] [] h n (fun v h1 n1 => Rn (d + 1) bc bs mX13_canFish 5 [some (vR (some ar0)), some (vI x1), some (vI x2)] (v.toList ++ []) h1 n1 Q)) : Rn (d + 1) (bc) (bs) mX13_canFish 0 [some (vR (some ar0)), some (vI x1), some (vI x2)] [] h n Q := by
  refine Rn_aload_n dX13_canFish_0 rfl rfl rfl ?_
  refine Rn_iload_n dX13_canFish_1 rfl rfl ?_
  exact Rn_callV (ci := 13) (avs := [vI x1]) (st := []) (bc1 := 0) (bs1 := 0) (bc2 := bc) (bs2 := bs) fx_X13_isAfloat dX13_canFish_2 wd_1674 wd_1676 wd_80 rfl h2 rfl (Nat.le_of_ble_eq_true rfl) (Nat.le_of_ble_eq_true rfl) (by omega) (by omega) (ls1 := [some (vR (some ar0)), some (vI x1)]) rfl k
theorem BX13_canFish_5 {d bc bs : Nat} {h : aH} {n : Nat} {Q : aQ} {r0 : Option Nat} {x1 x2 s0 : Int} (kt : s0 = 0 → Rn d bc bs mX13_canFish 45 [some (vR r0), some (vI x1), some (vI x2)] [] h n Q) (kf : s0 ≠ 0 → Rn d bc bs mX13_canFish 8 [some (vR r0), some (vI x1), some (vI x2)] [] h n Q) : Rn d (bc) (bs) mX13_canFish 5 [some (vR r0), some (vI x1), some (vI x2)] [vI s0] h n Q := by
  refine Rn_ifeq (tgt := 45) dX13_canFish_5 rfl ?_ ?_
  · exact kt
  · exact kf
theorem BX13_canFish_8 {d bc bs : Nat} {h : aH} {n : Nat} {Q : aQ} {ar0 : Nat} {x1 x2 : Int} {f1 : List aV} (h2 : h ar0 = cO 13 f1) (k : Rn d 0 0 mX13_isPerson 0 [some (vR (some ar0)), some (vI x2)] [] h n (fun v h1 n1 => Rn (d + 1) bc bs mX13_canFish 13 [some (vR (some ar0)), some (vI x1), some (vI x2)] (v.toList ++ []) h1 n1 Q)) : Rn (d + 1) (bc) (bs) mX13_canFish 8 [some (vR (some ar0)), some (vI x1), some (vI x2)] [] h n Q := by
  refine Rn_aload_n dX13_canFish_8 rfl rfl rfl ?_
  refine Rn_iload_n dX13_canFish_9 rfl rfl ?_
  exact Rn_callV (ci := 13) (avs := [vI x2]) (st := []) (bc1 := 0) (bs1 := 0) (bc2 := bc) (bs2 := bs) fx_X13_isPerson dX13_canFish_10 wd_1646 wd_1648 wd_74 rfl h2 rfl (Nat.le_of_ble_eq_true rfl) (Nat.le_of_ble_eq_true rfl) (by omega) (by omega) (ls1 := [some (vR (some ar0)), some (vI x2)]) rfl k
theorem BX13_canFish_13 {d bc bs : Nat} {h : aH} {n : Nat} {Q : aQ} {r0 : Option Nat} {x1 x2 s0 : Int} (kt : s0 = 0 → Rn d bc bs mX13_canFish 45 [some (vR r0), some (vI x1), some (vI x2)] [] h n Q) (kf : s0 ≠ 0 → Rn d bc bs mX13_canFish 16 [some (vR r0), some (vI x1), some (vI x2)] [] h n Q) : Rn d (bc) (bs) mX13_canFish 13 [some (vR r0), some (vI x1), some (vI x2)] [vI s0] h n Q := by
  refine Rn_ifeq (tgt := 45) dX13_canFish_13 rfl ?_ ?_
  · exact kt
  · exact kf
theorem BX13_canFish_16 {d bc bs : Nat} {h : aH} {n : Nat} {Q : aQ} {ar0 : Nat} {x1 x2 : Int} {f1 : List aV} (h2 : h ar0 = cO 13 f1) (k : Rn d 0 0 mX13_get 0 [some (vR (some ar0)), some (vI x1), some (vI 2)] [] h n (fun v h1 n1 => Rn (d + 1) bc bs mX13_canFish 22 [some (vR (some ar0)), some (vI x1), some (vI x2)] (v.toList ++ []) h1 n1 Q)) : Rn (d + 1) (bc) (bs) mX13_canFish 16 [some (vR (some ar0)), some (vI x1), some (vI x2)] [] h n Q := by
  refine Rn_aload_n dX13_canFish_16 rfl rfl rfl ?_
  refine Rn_iload_n dX13_canFish_17 rfl rfl ?_
  refine Rn_iconst dX13_canFish_18 rfl ?_
  exact Rn_callV (ci := 13) (avs := [vI x1, vI 2]) (st := []) (bc1 := 0) (bs1 := 0) (bc2 := bc) (bs2 := bs) fx_X13_get dX13_canFish_19 wd_1682 wd_1684 wd_82 rfl h2 rfl (Nat.le_of_ble_eq_true rfl) (Nat.le_of_ble_eq_true rfl) (by omega) (by omega) (ls1 := [some (vR (some ar0)), some (vI x1), some (vI 2)]) rfl k
theorem BX13_canFish_22 {d bc bs : Nat} {h : aH} {n : Nat} {Q : aQ} {ar0 : Nat} {x1 x2 s0 : Int} {f1 : List aV} (h2 : h ar0 = cO 13 f1) (k : Rn d 0 0 mX13_own 0 [some (vR (some ar0)), some (vI x2), some (vI 0)] [] h n (fun v h1 n1 => Rn (d + 1) bc bs mX13_canFish 28 [some (vR (some ar0)), some (vI x1), some (vI x2)] (v.toList ++ [vI s0]) h1 n1 Q)) : Rn (d + 1) (bc) (bs) mX13_canFish 22 [some (vR (some ar0)), some (vI x1), some (vI x2)] [vI s0] h n Q := by
  refine Rn_aload_n dX13_canFish_22 rfl rfl rfl ?_
  refine Rn_iload_n dX13_canFish_23 rfl rfl ?_
  refine Rn_iconst dX13_canFish_24 rfl ?_
  exact Rn_callV (ci := 13) (avs := [vI x2, vI 0]) (st := [vI s0]) (bc1 := 0) (bs1 := 0) (bc2 := bc) (bs2 := bs) fx_X13_own dX13_canFish_25 wd_1662 wd_1664 wd_78 rfl h2 rfl (Nat.le_of_ble_eq_true rfl) (Nat.le_of_ble_eq_true rfl) (by omega) (by omega) (ls1 := [some (vR (some ar0)), some (vI x2), some (vI 0)]) rfl k
theorem BX13_canFish_28 {d bc bs : Nat} {h : aH} {n : Nat} {Q : aQ} {r0 : Option Nat} {x1 x2 s0 s1 : Int} (kt : s0 ≠ s1 → Rn d bc bs mX13_canFish 45 [some (vR r0), some (vI x1), some (vI x2)] [] h n Q) (kf : s0 = s1 → Rn d bc bs mX13_canFish 31 [some (vR r0), some (vI x1), some (vI x2)] [] h n Q) : Rn d (bc) (bs) mX13_canFish 28 [some (vR r0), some (vI x1), some (vI x2)] [vI s1, vI s0] h n Q := by
  refine Rn_icmpne (tgt := 45) dX13_canFish_28 rfl ?_ ?_
  · exact kt
  · exact kf
theorem BX13_canFish_31 {d bc bs : Nat} {h : aH} {n : Nat} {Q : aQ} {ar0 : Nat} {x1 x2 : Int} {f1 : List aV} (h2 : h ar0 = cO 13 f1) (k : Rn d 0 0 mX13_get 0 [some (vR (some ar0)), some (vI x1), some (vI 0)] [] h n (fun v h1 n1 => Rn (d + 1) bc bs mX13_canFish 37 [some (vR (some ar0)), some (vI x1), some (vI x2)] (v.toList ++ []) h1 n1 Q)) : Rn (d + 1) (bc) (bs) mX13_canFish 31 [some (vR (some ar0)), some (vI x1), some (vI x2)] [] h n Q := by
  refine Rn_aload_n dX13_canFish_31 rfl rfl rfl ?_
  refine Rn_iload_n dX13_canFish_32 rfl rfl ?_
  refine Rn_iconst dX13_canFish_33 rfl ?_
  exact Rn_callV (ci := 13) (avs := [vI x1, vI 0]) (st := []) (bc1 := 0) (bs1 := 0) (bc2 := bc) (bs2 := bs) fx_X13_get dX13_canFish_34 wd_1682 wd_1684 wd_82 rfl h2 rfl (Nat.le_of_ble_eq_true rfl) (Nat.le_of_ble_eq_true rfl) (by omega) (by omega) (ls1 := [some (vR (some ar0)), some (vI x1), some (vI 0)]) rfl k
theorem BX13_canFish_37 {d bc bs : Nat} {h : aH} {n : Nat} {Q : aQ} {r0 : Option Nat} {x1 x2 s0 : Int} (kt : s0 = x2 → Rn d bc bs mX13_canFish 45 [some (vR r0), some (vI x1), some (vI x2)] [] h n Q) (kf : s0 ≠ x2 → Rn d bc bs mX13_canFish 41 [some (vR r0), some (vI x1), some (vI x2)] [] h n Q) : Rn d (bc) (bs) mX13_canFish 37 [some (vR r0), some (vI x1), some (vI x2)] [vI s0] h n Q := by
  refine Rn_iload_n dX13_canFish_37 rfl rfl ?_
  refine Rn_icmpeq (tgt := 45) dX13_canFish_38 rfl ?_ ?_
  · exact kt
  · exact kf
theorem BX13_canFish_41 {d bc bs : Nat} {h : aH} {n : Nat} {Q : aQ} {r0 : Option Nat} {x1 x2 : Int} (k : Q (some (vI 1)) h n) : Rn d (bc) (bs) mX13_canFish 41 [some (vR r0), some (vI x1), some (vI x2)] [] h n Q := by
  refine Rn_iconst dX13_canFish_41 rfl ?_
  refine Rn_goto (tgt := 46) dX13_canFish_42 rfl ?_
  exact Rn_zreturn rfl dX13_canFish_46 (by decide) k
theorem BX13_canFish_45 {d bc bs : Nat} {h : aH} {n : Nat} {Q : aQ} {r0 : Option Nat} {x1 x2 : Int} (k : Q (some (vI 0)) h n) : Rn d (bc) (bs) mX13_canFish 45 [some (vR r0), some (vI x1), some (vI x2)] [] h n Q := by
  refine Rn_iconst dX13_canFish_45 rfl ?_
  exact Rn_zreturn rfl dX13_canFish_46 (by decide) k
theorem dX13_fishNow_0 : decode cX13_fishNow 0 = .ok (.aload_n 0, 1) := by decide +kernel
theorem dX13_fishNow_1 : decode cX13_fishNow 1 = .ok (.iload_n 1, 1) := by decide +kernel
theorem dX13_fishNow_2 : decode cX13_fishNow 2 = .ok (.iconst 4, 1) := by decide +kernel
theorem dX13_fishNow_3 : decode cX13_fishNow 3 = .ok (.iconst 3, 1) := by decide +kernel
theorem dX13_fishNow_4 : decode cX13_fishNow 4 = .ok (.iload_n 2, 1) := by decide +kernel
theorem dX13_fishNow_5 : decode cX13_fishNow 5 = .ok (.iadd, 1) := by decide +kernel
theorem dX13_fishNow_6 : decode cX13_fishNow 6 = .ok (.invokevirtual 315, 3) := by decide +kernel
theorem dX13_fishNow_9 : decode cX13_fishNow 9 = .ok (.aload_n 0, 1) := by decide +kernel
theorem dX13_fishNow_10 : decode cX13_fishNow 10 = .ok (.iload_n 1, 1) := by decide +kernel
theorem dX13_fishNow_11 : decode cX13_fishNow 11 = .ok (.iconst 2, 1) := by decide +kernel
theorem dX13_fishNow_12 : decode cX13_fishNow 12 = .ok (.invokevirtual 322, 3) := by decide +kernel
theorem dX13_fishNow_15 : decode cX13_fishNow 15 = .ok (.return_, 1) := by decide +kernel
theorem BX13_fishNow_0 {d bc bs : Nat} {h : aH} {n : Nat} {Q : aQ} {ar0 : Nat} {x1 x2 : Int} {f2 : List aV} (b1 : -2147483648 ≤ 3 + x2 ∧ 3 + x2 < 2147483648) (h3 : h ar0 = cO 13 f2) (k : Rn d 0 0 mX13_put 0 [some (vR (some ar0)), some (vI x1), some (vI 4), some (vI (3 + x2))] [] h n (fun v h1 n1 => Rn (d + 1) bc bs mX13_fishNow 9 [some (vR (some ar0)), some (vI x1), some (vI x2)] (v.toList ++ []) h1 n1 Q)) : Rn (d + 1) (bc) (bs) mX13_fishNow 0 [some (vR (some ar0)), some (vI x1), some (vI x2)] [] h n Q := by
  refine Rn_aload_n dX13_fishNow_0 rfl rfl rfl ?_
  refine Rn_iload_n dX13_fishNow_1 rfl rfl ?_
  refine Rn_iconst dX13_fishNow_2 rfl ?_
  refine Rn_iconst dX13_fishNow_3 rfl ?_
  refine Rn_iload_n dX13_fishNow_4 rfl rfl ?_
  refine Rn_iadd dX13_fishNow_5 ?_
  rw [w32_id b1.1 b1.2]
  exact Rn_callV (ci := 13) (avs := [vI x1, vI 4, vI (3 + x2)]) (st := []) (bc1 := 0) (bs1 := 0) (bc2 := bc) (bs2 := bs) fx_X13_put dX13_fishNow_6 wd_1658 wd_1660 wd_77 rfl h3 rfl (Nat.le_of_ble_eq_true rfl) (Nat.le_of_ble_eq_true rfl) (by omega) (by omega) (ls1 := [some (vR (some ar0)), some (vI x1), some (vI 4), some (vI (3 + x2))]) rfl k
theorem BX13_fishNow_9 {d bc bs : Nat} {h : aH} {n : Nat} {Q : aQ} {ar0 : Nat} {x1 x2 : Int} {f1 : List aV} (h2 : h ar0 = cO 13 f1) (k : Rn d 0 0 mX13_write 0 [some (vR (some ar0)), some (vI x1), some (vI 2), none] [] h n (fun v h1 n1 => Rn (d + 1) bc bs mX13_fishNow 15 [some (vR (some ar0)), some (vI x1), some (vI x2)] (v.toList ++ []) h1 n1 Q)) : Rn (d + 1) (bc) (bs) mX13_fishNow 9 [some (vR (some ar0)), some (vI x1), some (vI x2)] [] h n Q := by
  refine Rn_aload_n dX13_fishNow_9 rfl rfl rfl ?_
  refine Rn_iload_n dX13_fishNow_10 rfl rfl ?_
  refine Rn_iconst dX13_fishNow_11 rfl ?_
  exact Rn_callV (ci := 13) (avs := [vI x1, vI 2]) (st := []) (bc1 := 0) (bs1 := 0) (bc2 := bc) (bs2 := bs) fx_X13_write dX13_fishNow_12 wd_1690 wd_1692 wd_84 rfl h2 rfl (Nat.le_of_ble_eq_true rfl) (Nat.le_of_ble_eq_true rfl) (by omega) (by omega) (ls1 := [some (vR (some ar0)), some (vI x1), some (vI 2), none]) rfl k
theorem BX13_fishNow_15 {d bc bs : Nat} {h : aH} {n : Nat} {Q : aQ} {r0 : Option Nat} {x1 x2 : Int} (k : Q none h n) : Rn d (bc) (bs) mX13_fishNow 15 [some (vR r0), some (vI x1), some (vI x2)] [] h n Q := by
  exact Rn_return rfl dX13_fishNow_15 k
theorem dX13_fish_0 : decode cX13_fish 0 = .ok (.aload_n 0, 1) := by decide +kernel
theorem dX13_fish_1 : decode cX13_fish 1 = .ok (.iload_n 1, 1) := by decide +kernel
theorem dX13_fish_2 : decode cX13_fish 2 = .ok (.iload_n 2, 1) := by decide +kernel
theorem dX13_fish_3 : decode cX13_fish 3 = .ok (.invokevirtual 355, 3) := by decide +kernel
theorem dX13_fish_6 : decode cX13_fish 6 = .ok (.ifCond .ne 5, 3) := by decide +kernel
theorem dX13_fish_9 : decode cX13_fish 9 = .ok (.iconst 0, 1) := by decide +kernel
theorem dX13_fish_10 : decode cX13_fish 10 = .ok (.ireturn, 1) := by decide +kernel
theorem dX13_fish_11 : decode cX13_fish 11 = .ok (.aload_n 0, 1) := by decide +kernel
theorem dX13_fish_12 : decode cX13_fish 12 = .ok (.invokevirtual 349, 3) := by decide +kernel
theorem dX13_fish_15 : decode cX13_fish 15 = .ok (.aload_n 0, 1) := by decide +kernel
theorem dX13_fish_16 : decode cX13_fish 16 = .ok (.iload_n 1, 1) := by decide +kernel
theorem dX13_fish_17 : decode cX13_fish 17 = .ok (.iload_n 2, 1) := by decide +kernel
theorem dX13_fish_18 : decode cX13_fish 18 = .ok (.invokevirtual 358, 3) := by decide +kernel
theorem dX13_fish_21 : decode cX13_fish 21 = .ok (.iconst 1, 1) := by decide +kernel
theorem dX13_fish_22 : decode cX13_fish 22 = .ok (.ireturn, 1) := by decide +kernel
theorem BX13_fish_0 {d bc bs : Nat} {h : aH} {n : Nat} {Q : aQ} {ar0 : Nat} {x1 x2 : Int} {f1 : List aV} (h2 : h ar0 = cO 13 f1) (k : Rn d 0 0 mX13_canFish 0 [some (vR (some ar0)), some (vI x1), some (vI x2)] [] h n (fun v h1 n1 => Rn (d + 1) bc bs mX13_fish 6 [some (vR (some ar0)), some (vI x1), some (vI x2)] (v.toList ++ []) h1 n1 Q)) : Rn (d + 1) (bc) (bs) mX13_fish 0 [some (vR (some ar0)), some (vI x1), some (vI x2)] [] h n Q := by
  refine Rn_aload_n dX13_fish_0 rfl rfl rfl ?_
  refine Rn_iload_n dX13_fish_1 rfl rfl ?_
  refine Rn_iload_n dX13_fish_2 rfl rfl ?_
  exact Rn_callV (ci := 13) (avs := [vI x1, vI x2]) (st := []) (bc1 := 0) (bs1 := 0) (bc2 := bc) (bs2 := bs) fx_X13_canFish dX13_fish_3 wd_1670 wd_1672 wd_79 rfl h2 rfl (Nat.le_of_ble_eq_true rfl) (Nat.le_of_ble_eq_true rfl) (by omega) (by omega) (ls1 := [some (vR (some ar0)), some (vI x1), some (vI x2)]) rfl k
theorem BX13_fish_6 {d bc bs : Nat} {h : aH} {n : Nat} {Q : aQ} {r0 : Option Nat} {x1 x2 s0 : Int} (kt : s0 ≠ 0 → Rn d bc bs mX13_fish 11 [some (vR r0), some (vI x1), some (vI x2)] [] h n Q) (kf : s0 = 0 → Rn d bc bs mX13_fish 9 [some (vR r0), some (vI x1), some (vI x2)] [] h n Q) : Rn d (bc) (bs) mX13_fish 6 [some (vR r0), some (vI x1), some (vI x2)] [vI s0] h n Q := by
  refine Rn_ifne (tgt := 11) dX13_fish_6 rfl ?_ ?_
  · exact kt
  · exact kf
theorem BX13_fish_9 {d bc bs : Nat} {h : aH} {n : Nat} {Q : aQ} {r0 : Option Nat} {x1 x2 : Int} (k : Q (some (vI 0)) h n) : Rn d (bc) (bs) mX13_fish 9 [some (vR r0), some (vI x1), some (vI x2)] [] h n Q := by
  refine Rn_iconst dX13_fish_9 rfl ?_
  exact Rn_zreturn rfl dX13_fish_10 (by decide) k
theorem BX13_fish_11 {d bc bs : Nat} {h : aH} {n : Nat} {Q : aQ} {ar0 : Nat} {x1 x2 : Int} {f1 : List aV} (h2 : h ar0 = cO 13 f1) (k : Rn d 0 0 mX13_keep 0 [some (vR (some ar0)), none, none] [] h n (fun v h1 n1 => Rn (d + 1) bc bs mX13_fish 15 [some (vR (some ar0)), some (vI x1), some (vI x2)] (v.toList ++ []) h1 n1 Q)) : Rn (d + 1) (bc) (bs) mX13_fish 11 [some (vR (some ar0)), some (vI x1), some (vI x2)] [] h n Q := by
  refine Rn_aload_n dX13_fish_11 rfl rfl rfl ?_
  exact Rn_callV (ci := 13) (avs := []) (st := []) (bc1 := 0) (bs1 := 0) (bc2 := bc) (bs2 := bs) fx_X13_keep dX13_fish_12 wd_1650 wd_1652 wd_75 rfl h2 rfl (Nat.le_of_ble_eq_true rfl) (Nat.le_of_ble_eq_true rfl) (by omega) (by omega) (ls1 := [some (vR (some ar0)), none, none]) rfl k
theorem BX13_fish_15 {d bc bs : Nat} {h : aH} {n : Nat} {Q : aQ} {ar0 : Nat} {x1 x2 : Int} {f1 : List aV} (h2 : h ar0 = cO 13 f1) (k : Rn d 0 0 mX13_fishNow 0 [some (vR (some ar0)), some (vI x1), some (vI x2)] [] h n (fun v h1 n1 => Rn (d + 1) bc bs mX13_fish 21 [some (vR (some ar0)), some (vI x1), some (vI x2)] (v.toList ++ []) h1 n1 Q)) : Rn (d + 1) (bc) (bs) mX13_fish 15 [some (vR (some ar0)), some (vI x1), some (vI x2)] [] h n Q := by
  refine Rn_aload_n dX13_fish_15 rfl rfl rfl ?_
  refine Rn_iload_n dX13_fish_16 rfl rfl ?_
  refine Rn_iload_n dX13_fish_17 rfl rfl ?_
  exact Rn_callV (ci := 13) (avs := [vI x1, vI x2]) (st := []) (bc1 := 0) (bs1 := 0) (bc2 := bc) (bs2 := bs) fx_X13_fishNow dX13_fish_18 wd_1686 wd_1688 wd_83 rfl h2 rfl (Nat.le_of_ble_eq_true rfl) (Nat.le_of_ble_eq_true rfl) (by omega) (by omega) (ls1 := [some (vR (some ar0)), some (vI x1), some (vI x2)]) rfl k
theorem BX13_fish_21 {d bc bs : Nat} {h : aH} {n : Nat} {Q : aQ} {r0 : Option Nat} {x1 x2 : Int} (k : Q (some (vI 1)) h n) : Rn d (bc) (bs) mX13_fish 21 [some (vR r0), some (vI x1), some (vI x2)] [] h n Q := by
  refine Rn_iconst dX13_fish_21 rfl ?_
  exact Rn_zreturn rfl dX13_fish_22 (by decide) k
theorem dX13_canAgain_0 : decode cX13_canAgain 0 = .ok (.aload_n 0, 1) := by decide +kernel
theorem dX13_canAgain_1 : decode cX13_canAgain 1 = .ok (.iload_n 1, 1) := by decide +kernel
theorem dX13_canAgain_2 : decode cX13_canAgain 2 = .ok (.invokevirtual 76, 3) := by decide +kernel
theorem dX13_canAgain_5 : decode cX13_canAgain 5 = .ok (.ifCond .eq 17, 3) := by decide +kernel
theorem dX13_canAgain_8 : decode cX13_canAgain 8 = .ok (.aload_n 0, 1) := by decide +kernel
theorem dX13_canAgain_9 : decode cX13_canAgain 9 = .ok (.iload_n 1, 1) := by decide +kernel
theorem dX13_canAgain_10 : decode cX13_canAgain 10 = .ok (.iconst 4, 1) := by decide +kernel
theorem dX13_canAgain_11 : decode cX13_canAgain 11 = .ok (.invokevirtual 80, 3) := by decide +kernel
theorem dX13_canAgain_14 : decode cX13_canAgain 14 = .ok (.iconst 3, 1) := by decide +kernel
theorem dX13_canAgain_15 : decode cX13_canAgain 15 = .ok (.if_icmp .lt 7, 3) := by decide +kernel
theorem dX13_canAgain_18 : decode cX13_canAgain 18 = .ok (.iconst 1, 1) := by decide +kernel
theorem dX13_canAgain_19 : decode cX13_canAgain 19 = .ok (.goto 4, 3) := by decide +kernel
theorem dX13_canAgain_22 : decode cX13_canAgain 22 = .ok (.iconst 0, 1) := by decide +kernel
theorem dX13_canAgain_23 : decode cX13_canAgain 23 = .ok (.ireturn, 1) := by decide +kernel
theorem BX13_canAgain_0 {d bc bs : Nat} {h : aH} {n : Nat} {Q : aQ} {ar0 : Nat} {x1 : Int} {f1 : List aV} (h2 : h ar0 = cO 13 f1) (k : Rn d 0 0 mX13_isBottle 0 [some (vR (some ar0)), some (vI x1)] [] h n (fun v h1 n1 => Rn (d + 1) bc bs mX13_canAgain 5 [some (vR (some ar0)), some (vI x1)] (v.toList ++ []) h1 n1 Q)) : Rn (d + 1) (bc) (bs) mX13_canAgain 0 [some (vR (some ar0)), some (vI x1)] [] h n Q := by
  refine Rn_aload_n dX13_canAgain_0 rfl rfl rfl ?_
  refine Rn_iload_n dX13_canAgain_1 rfl rfl ?_
  exact Rn_callV (ci := 13) (avs := [vI x1]) (st := []) (bc1 := 0) (bs1 := 0) (bc2 := bc) (bs2 := bs) fx_X13_isBottle dX13_canAgain_2 wd_1678 wd_1680 wd_81 rfl h2 rfl (Nat.le_of_ble_eq_true rfl) (Nat.le_of_ble_eq_true rfl) (by omega) (by omega) (ls1 := [some (vR (some ar0)), some (vI x1)]) rfl k
theorem BX13_canAgain_5 {d bc bs : Nat} {h : aH} {n : Nat} {Q : aQ} {r0 : Option Nat} {x1 s0 : Int} (kt : s0 = 0 → Rn d bc bs mX13_canAgain 22 [some (vR r0), some (vI x1)] [] h n Q) (kf : s0 ≠ 0 → Rn d bc bs mX13_canAgain 8 [some (vR r0), some (vI x1)] [] h n Q) : Rn d (bc) (bs) mX13_canAgain 5 [some (vR r0), some (vI x1)] [vI s0] h n Q := by
  refine Rn_ifeq (tgt := 22) dX13_canAgain_5 rfl ?_ ?_
  · exact kt
  · exact kf
theorem BX13_canAgain_8 {d bc bs : Nat} {h : aH} {n : Nat} {Q : aQ} {ar0 : Nat} {x1 : Int} {f1 : List aV} (h2 : h ar0 = cO 13 f1) (k : Rn d 0 0 mX13_get 0 [some (vR (some ar0)), some (vI x1), some (vI 4)] [] h n (fun v h1 n1 => Rn (d + 1) bc bs mX13_canAgain 14 [some (vR (some ar0)), some (vI x1)] (v.toList ++ []) h1 n1 Q)) : Rn (d + 1) (bc) (bs) mX13_canAgain 8 [some (vR (some ar0)), some (vI x1)] [] h n Q := by
  refine Rn_aload_n dX13_canAgain_8 rfl rfl rfl ?_
  refine Rn_iload_n dX13_canAgain_9 rfl rfl ?_
  refine Rn_iconst dX13_canAgain_10 rfl ?_
  exact Rn_callV (ci := 13) (avs := [vI x1, vI 4]) (st := []) (bc1 := 0) (bs1 := 0) (bc2 := bc) (bs2 := bs) fx_X13_get dX13_canAgain_11 wd_1682 wd_1684 wd_82 rfl h2 rfl (Nat.le_of_ble_eq_true rfl) (Nat.le_of_ble_eq_true rfl) (by omega) (by omega) (ls1 := [some (vR (some ar0)), some (vI x1), some (vI 4)]) rfl k
theorem BX13_canAgain_14 {d bc bs : Nat} {h : aH} {n : Nat} {Q : aQ} {r0 : Option Nat} {x1 s0 : Int} (kt : s0 < 3 → Rn d bc bs mX13_canAgain 22 [some (vR r0), some (vI x1)] [] h n Q) (kf : 3 ≤ s0 → Rn d bc bs mX13_canAgain 18 [some (vR r0), some (vI x1)] [] h n Q) : Rn d (bc) (bs) mX13_canAgain 14 [some (vR r0), some (vI x1)] [vI s0] h n Q := by
  refine Rn_iconst dX13_canAgain_14 rfl ?_
  refine Rn_icmplt (tgt := 22) dX13_canAgain_15 rfl ?_ ?_
  · exact kt
  · exact kf
theorem BX13_canAgain_18 {d bc bs : Nat} {h : aH} {n : Nat} {Q : aQ} {r0 : Option Nat} {x1 : Int} (k : Q (some (vI 1)) h n) : Rn d (bc) (bs) mX13_canAgain 18 [some (vR r0), some (vI x1)] [] h n Q := by
  refine Rn_iconst dX13_canAgain_18 rfl ?_
  refine Rn_goto (tgt := 23) dX13_canAgain_19 rfl ?_
  exact Rn_zreturn rfl dX13_canAgain_23 (by decide) k
theorem BX13_canAgain_22 {d bc bs : Nat} {h : aH} {n : Nat} {Q : aQ} {r0 : Option Nat} {x1 : Int} (k : Q (some (vI 0)) h n) : Rn d (bc) (bs) mX13_canAgain 22 [some (vR r0), some (vI x1)] [] h n Q := by
  refine Rn_iconst dX13_canAgain_22 rfl ?_
  exact Rn_zreturn rfl dX13_canAgain_23 (by decide) k
theorem dX13_againNow_0 : decode cX13_againNow 0 = .ok (.aload_n 0, 1) := by decide +kernel
theorem dX13_againNow_1 : decode cX13_againNow 1 = .ok (.iload_n 1, 1) := by decide +kernel
theorem dX13_againNow_2 : decode cX13_againNow 2 = .ok (.iconst 2, 1) := by decide +kernel
theorem dX13_againNow_3 : decode cX13_againNow 3 = .ok (.aload_n 0, 1) := by decide +kernel
theorem dX13_againNow_4 : decode cX13_againNow 4 = .ok (.aload_n 0, 1) := by decide +kernel
theorem dX13_againNow_5 : decode cX13_againNow 5 = .ok (.iload_n 1, 1) := by decide +kernel
theorem dX13_againNow_6 : decode cX13_againNow 6 = .ok (.iconst 4, 1) := by decide +kernel
theorem dX13_againNow_7 : decode cX13_againNow 7 = .ok (.invokevirtual 80, 3) := by decide +kernel
theorem dX13_againNow_10 : decode cX13_againNow 10 = .ok (.iconst 3, 1) := by decide +kernel
theorem dX13_againNow_11 : decode cX13_againNow 11 = .ok (.isub, 1) := by decide +kernel
theorem dX13_againNow_12 : decode cX13_againNow 12 = .ok (.iconst 0, 1) := by decide +kernel
theorem dX13_againNow_13 : decode cX13_againNow 13 = .ok (.invokevirtual 267, 3) := by decide +kernel
theorem dX13_againNow_16 : decode cX13_againNow 16 = .ok (.invokevirtual 315, 3) := by decide +kernel
theorem dX13_againNow_19 : decode cX13_againNow 19 = .ok (.aload_n 0, 1) := by decide +kernel
theorem dX13_againNow_20 : decode cX13_againNow 20 = .ok (.iload_n 1, 1) := by decide +kernel
theorem dX13_againNow_21 : decode cX13_againNow 21 = .ok (.iconst 4, 1) := by decide +kernel
theorem dX13_againNow_22 : decode cX13_againNow 22 = .ok (.iconst 0, 1) := by decide +kernel
theorem dX13_againNow_23 : decode cX13_againNow 23 = .ok (.invokevirtual 315, 3) := by decide +kernel
theorem dX13_againNow_26 : decode cX13_againNow 26 = .ok (.return_, 1) := by decide +kernel
theorem BX13_againNow_0 {d bc bs : Nat} {h : aH} {n : Nat} {Q : aQ} {ar0 : Nat} {x1 : Int} {f1 : List aV} (h2 : h ar0 = cO 13 f1) (k : Rn d 0 0 mX13_get 0 [some (vR (some ar0)), some (vI x1), some (vI 4)] [] h n (fun v h1 n1 => Rn (d + 1) bc bs mX13_againNow 10 [some (vR (some ar0)), some (vI x1)] (v.toList ++ [vR (some ar0), vI 2, vI x1, vR (some ar0)]) h1 n1 Q)) : Rn (d + 1) (bc) (bs) mX13_againNow 0 [some (vR (some ar0)), some (vI x1)] [] h n Q := by
  refine Rn_aload_n dX13_againNow_0 rfl rfl rfl ?_
  refine Rn_iload_n dX13_againNow_1 rfl rfl ?_
  refine Rn_iconst dX13_againNow_2 rfl ?_
  refine Rn_aload_n dX13_againNow_3 rfl rfl rfl ?_
  refine Rn_aload_n dX13_againNow_4 rfl rfl rfl ?_
  refine Rn_iload_n dX13_againNow_5 rfl rfl ?_
  refine Rn_iconst dX13_againNow_6 rfl ?_
  exact Rn_callV (ci := 13) (avs := [vI x1, vI 4]) (st := [vR (some ar0), vI 2, vI x1, vR (some ar0)]) (bc1 := 0) (bs1 := 0) (bc2 := bc) (bs2 := bs) fx_X13_get dX13_againNow_7 wd_1682 wd_1684 wd_82 rfl h2 rfl (Nat.le_of_ble_eq_true rfl) (Nat.le_of_ble_eq_true rfl) (by omega) (by omega) (ls1 := [some (vR (some ar0)), some (vI x1), some (vI 4)]) rfl k
theorem BX13_againNow_10 {d bc bs : Nat} {h : aH} {n : Nat} {Q : aQ} {r0 q0 : Option Nat} {x1 s1 s2 s4 : Int} {aq3 : Nat} {f2 : List aV} (b1 : -2147483648 ≤ s4 - 3 ∧ s4 - 3 < 2147483648) (h3 : h aq3 = cO 13 f2) (k : Rn d 0 0 mX13_own 0 [some (vR (some aq3)), some (vI (s4 - 3)), some (vI 0)] [] h n (fun v h1 n1 => Rn (d + 1) bc bs mX13_againNow 16 [some (vR r0), some (vI x1)] (v.toList ++ [vI s2, vI s1, vR q0]) h1 n1 Q)) : Rn (d + 1) (bc) (bs) mX13_againNow 10 [some (vR r0), some (vI x1)] [vI s4, vR (some aq3), vI s2, vI s1, vR q0] h n Q := by
  refine Rn_iconst dX13_againNow_10 rfl ?_
  refine Rn_isub dX13_againNow_11 ?_
  rw [w32_id b1.1 b1.2]
  refine Rn_iconst dX13_againNow_12 rfl ?_
  exact Rn_callV (ci := 13) (avs := [vI (s4 - 3), vI 0]) (st := [vI s2, vI s1, vR q0]) (bc1 := 0) (bs1 := 0) (bc2 := bc) (bs2 := bs) fx_X13_own dX13_againNow_13 wd_1662 wd_1664 wd_78 rfl h3 rfl (Nat.le_of_ble_eq_true rfl) (Nat.le_of_ble_eq_true rfl) (by omega) (by omega) (ls1 := [some (vR (some aq3)), some (vI (s4 - 3)), some (vI 0)]) rfl k
theorem BX13_againNow_16 {d bc bs : Nat} {h : aH} {n : Nat} {Q : aQ} {r0 : Option Nat} {x1 s1 s2 s3 : Int} {aq0 : Nat} {f1 : List aV} (h2 : h aq0 = cO 13 f1) (k : Rn d 0 0 mX13_put 0 [some (vR (some aq0)), some (vI s1), some (vI s2), some (vI s3)] [] h n (fun v h1 n1 => Rn (d + 1) bc bs mX13_againNow 19 [some (vR r0), some (vI x1)] (v.toList ++ []) h1 n1 Q)) : Rn (d + 1) (bc) (bs) mX13_againNow 16 [some (vR r0), some (vI x1)] [vI s3, vI s2, vI s1, vR (some aq0)] h n Q := by
  exact Rn_callV (ci := 13) (avs := [vI s1, vI s2, vI s3]) (st := []) (bc1 := 0) (bs1 := 0) (bc2 := bc) (bs2 := bs) fx_X13_put dX13_againNow_16 wd_1658 wd_1660 wd_77 rfl h2 rfl (Nat.le_of_ble_eq_true rfl) (Nat.le_of_ble_eq_true rfl) (by omega) (by omega) (ls1 := [some (vR (some aq0)), some (vI s1), some (vI s2), some (vI s3)]) rfl k
theorem BX13_againNow_19 {d bc bs : Nat} {h : aH} {n : Nat} {Q : aQ} {ar0 : Nat} {x1 : Int} {f1 : List aV} (h2 : h ar0 = cO 13 f1) (k : Rn d 0 0 mX13_put 0 [some (vR (some ar0)), some (vI x1), some (vI 4), some (vI 0)] [] h n (fun v h1 n1 => Rn (d + 1) bc bs mX13_againNow 26 [some (vR (some ar0)), some (vI x1)] (v.toList ++ []) h1 n1 Q)) : Rn (d + 1) (bc) (bs) mX13_againNow 19 [some (vR (some ar0)), some (vI x1)] [] h n Q := by
  refine Rn_aload_n dX13_againNow_19 rfl rfl rfl ?_
  refine Rn_iload_n dX13_againNow_20 rfl rfl ?_
  refine Rn_iconst dX13_againNow_21 rfl ?_
  refine Rn_iconst dX13_againNow_22 rfl ?_
  exact Rn_callV (ci := 13) (avs := [vI x1, vI 4, vI 0]) (st := []) (bc1 := 0) (bs1 := 0) (bc2 := bc) (bs2 := bs) fx_X13_put dX13_againNow_23 wd_1658 wd_1660 wd_77 rfl h2 rfl (Nat.le_of_ble_eq_true rfl) (Nat.le_of_ble_eq_true rfl) (by omega) (by omega) (ls1 := [some (vR (some ar0)), some (vI x1), some (vI 4), some (vI 0)]) rfl k
theorem BX13_againNow_26 {d bc bs : Nat} {h : aH} {n : Nat} {Q : aQ} {r0 : Option Nat} {x1 : Int} (k : Q none h n) : Rn d (bc) (bs) mX13_againNow 26 [some (vR r0), some (vI x1)] [] h n Q := by
  exact Rn_return rfl dX13_againNow_26 k
theorem dX13_again_0 : decode cX13_again 0 = .ok (.aload_n 0, 1) := by decide +kernel
theorem dX13_again_1 : decode cX13_again 1 = .ok (.iload_n 1, 1) := by decide +kernel
theorem dX13_again_2 : decode cX13_again 2 = .ok (.invokevirtual 361, 3) := by decide +kernel
theorem dX13_again_5 : decode cX13_again 5 = .ok (.ifCond .ne 5, 3) := by decide +kernel
theorem dX13_again_8 : decode cX13_again 8 = .ok (.iconst 0, 1) := by decide +kernel
theorem dX13_again_9 : decode cX13_again 9 = .ok (.ireturn, 1) := by decide +kernel
theorem dX13_again_10 : decode cX13_again 10 = .ok (.aload_n 0, 1) := by decide +kernel
theorem dX13_again_11 : decode cX13_again 11 = .ok (.invokevirtual 349, 3) := by decide +kernel
theorem dX13_again_14 : decode cX13_again 14 = .ok (.aload_n 0, 1) := by decide +kernel
theorem dX13_again_15 : decode cX13_again 15 = .ok (.iload_n 1, 1) := by decide +kernel
theorem dX13_again_16 : decode cX13_again 16 = .ok (.invokevirtual 364, 3) := by decide +kernel
theorem dX13_again_19 : decode cX13_again 19 = .ok (.iconst 1, 1) := by decide +kernel
theorem dX13_again_20 : decode cX13_again 20 = .ok (.ireturn, 1) := by decide +kernel
theorem BX13_again_0 {d bc bs : Nat} {h : aH} {n : Nat} {Q : aQ} {ar0 : Nat} {x1 : Int} {f1 : List aV} (h2 : h ar0 = cO 13 f1) (k : Rn d 0 0 mX13_canAgain 0 [some (vR (some ar0)), some (vI x1)] [] h n (fun v h1 n1 => Rn (d + 1) bc bs mX13_again 5 [some (vR (some ar0)), some (vI x1)] (v.toList ++ []) h1 n1 Q)) : Rn (d + 1) (bc) (bs) mX13_again 0 [some (vR (some ar0)), some (vI x1)] [] h n Q := by
  refine Rn_aload_n dX13_again_0 rfl rfl rfl ?_
  refine Rn_iload_n dX13_again_1 rfl rfl ?_
  exact Rn_callV (ci := 13) (avs := [vI x1]) (st := []) (bc1 := 0) (bs1 := 0) (bc2 := bc) (bs2 := bs) fx_X13_canAgain dX13_again_2 wd_1698 wd_1700 wd_85 rfl h2 rfl (Nat.le_of_ble_eq_true rfl) (Nat.le_of_ble_eq_true rfl) (by omega) (by omega) (ls1 := [some (vR (some ar0)), some (vI x1)]) rfl k
theorem BX13_again_5 {d bc bs : Nat} {h : aH} {n : Nat} {Q : aQ} {r0 : Option Nat} {x1 s0 : Int} (kt : s0 ≠ 0 → Rn d bc bs mX13_again 10 [some (vR r0), some (vI x1)] [] h n Q) (kf : s0 = 0 → Rn d bc bs mX13_again 8 [some (vR r0), some (vI x1)] [] h n Q) : Rn d (bc) (bs) mX13_again 5 [some (vR r0), some (vI x1)] [vI s0] h n Q := by
  refine Rn_ifne (tgt := 10) dX13_again_5 rfl ?_ ?_
  · exact kt
  · exact kf
theorem BX13_again_8 {d bc bs : Nat} {h : aH} {n : Nat} {Q : aQ} {r0 : Option Nat} {x1 : Int} (k : Q (some (vI 0)) h n) : Rn d (bc) (bs) mX13_again 8 [some (vR r0), some (vI x1)] [] h n Q := by
  refine Rn_iconst dX13_again_8 rfl ?_
  exact Rn_zreturn rfl dX13_again_9 (by decide) k
theorem BX13_again_10 {d bc bs : Nat} {h : aH} {n : Nat} {Q : aQ} {ar0 : Nat} {x1 : Int} {f1 : List aV} (h2 : h ar0 = cO 13 f1) (k : Rn d 0 0 mX13_keep 0 [some (vR (some ar0)), none, none] [] h n (fun v h1 n1 => Rn (d + 1) bc bs mX13_again 14 [some (vR (some ar0)), some (vI x1)] (v.toList ++ []) h1 n1 Q)) : Rn (d + 1) (bc) (bs) mX13_again 10 [some (vR (some ar0)), some (vI x1)] [] h n Q := by
  refine Rn_aload_n dX13_again_10 rfl rfl rfl ?_
  exact Rn_callV (ci := 13) (avs := []) (st := []) (bc1 := 0) (bs1 := 0) (bc2 := bc) (bs2 := bs) fx_X13_keep dX13_again_11 wd_1650 wd_1652 wd_75 rfl h2 rfl (Nat.le_of_ble_eq_true rfl) (Nat.le_of_ble_eq_true rfl) (by omega) (by omega) (ls1 := [some (vR (some ar0)), none, none]) rfl k
theorem BX13_again_14 {d bc bs : Nat} {h : aH} {n : Nat} {Q : aQ} {ar0 : Nat} {x1 : Int} {f1 : List aV} (h2 : h ar0 = cO 13 f1) (k : Rn d 0 0 mX13_againNow 0 [some (vR (some ar0)), some (vI x1)] [] h n (fun v h1 n1 => Rn (d + 1) bc bs mX13_again 19 [some (vR (some ar0)), some (vI x1)] (v.toList ++ []) h1 n1 Q)) : Rn (d + 1) (bc) (bs) mX13_again 14 [some (vR (some ar0)), some (vI x1)] [] h n Q := by
  refine Rn_aload_n dX13_again_14 rfl rfl rfl ?_
  refine Rn_iload_n dX13_again_15 rfl rfl ?_
  exact Rn_callV (ci := 13) (avs := [vI x1]) (st := []) (bc1 := 0) (bs1 := 0) (bc2 := bc) (bs2 := bs) fx_X13_againNow dX13_again_16 wd_1702 wd_1704 wd_86 rfl h2 rfl (Nat.le_of_ble_eq_true rfl) (Nat.le_of_ble_eq_true rfl) (by omega) (by omega) (ls1 := [some (vR (some ar0)), some (vI x1)]) rfl k
theorem BX13_again_19 {d bc bs : Nat} {h : aH} {n : Nat} {Q : aQ} {r0 : Option Nat} {x1 : Int} (k : Q (some (vI 1)) h n) : Rn d (bc) (bs) mX13_again 19 [some (vR r0), some (vI x1)] [] h n Q := by
  refine Rn_iconst dX13_again_19 rfl ?_
  exact Rn_zreturn rfl dX13_again_20 (by decide) k
theorem dX13_arePassed_0 : decode cX13_arePassed 0 = .ok (.aload_n 0, 1) := by decide +kernel
theorem dX13_arePassed_1 : decode cX13_arePassed 1 = .ok (.iconst 0, 1) := by decide +kernel
theorem dX13_arePassed_2 : decode cX13_arePassed 2 = .ok (.putfield 319, 3) := by decide +kernel
theorem dX13_arePassed_5 : decode cX13_arePassed 5 = .ok (.iconst 0, 1) := by decide +kernel
theorem dX13_arePassed_6 : decode cX13_arePassed 6 = .ok (.istore_n 2, 1) := by decide +kernel
theorem dX13_arePassed_7 : decode cX13_arePassed 7 = .ok (.iload_n 2, 1) := by decide +kernel
theorem dX13_arePassed_8 : decode cX13_arePassed 8 = .ok (.iload_n 1, 1) := by decide +kernel
theorem dX13_arePassed_9 : decode cX13_arePassed 9 = .ok (.if_icmp .ge 32, 3) := by decide +kernel
theorem dX13_arePassed_12 : decode cX13_arePassed 12 = .ok (.aload_n 0, 1) := by decide +kernel
theorem dX13_arePassed_13 : decode cX13_arePassed 13 = .ok (.getfield 7, 3) := by decide +kernel
theorem dX13_arePassed_16 : decode cX13_arePassed 16 = .ok (.bipush 7, 2) := by decide +kernel
theorem dX13_arePassed_18 : decode cX13_arePassed 18 = .ok (.iaload, 1) := by decide +kernel
theorem dX13_arePassed_19 : decode cX13_arePassed 19 = .ok (.sipush 9999, 3) := by decide +kernel
theorem dX13_arePassed_22 : decode cX13_arePassed 22 = .ok (.if_icmp .ne 5, 3) := by decide +kernel
theorem dX13_arePassed_25 : decode cX13_arePassed 25 = .ok (.iconst 0, 1) := by decide +kernel
theorem dX13_arePassed_26 : decode cX13_arePassed 26 = .ok (.ireturn, 1) := by decide +kernel
theorem dX13_arePassed_27 : decode cX13_arePassed 27 = .ok (.aload_n 0, 1) := by decide +kernel
theorem dX13_arePassed_28 : decode cX13_arePassed 28 = .ok (.invokevirtual 349, 3) := by decide +kernel
theorem dX13_arePassed_31 : decode cX13_arePassed 31 = .ok (.aload_n 0, 1) := by decide +kernel
theorem dX13_arePassed_32 : decode cX13_arePassed 32 = .ok (.invokevirtual 367, 3) := by decide +kernel
theorem dX13_arePassed_35 : decode cX13_arePassed 35 = .ok (.iinc 2 1, 3) := by decide +kernel
theorem dX13_arePassed_38 : decode cX13_arePassed 38 = .ok (.goto (-31), 3) := by decide +kernel
theorem dX13_arePassed_41 : decode cX13_arePassed 41 = .ok (.iconst 1, 1) := by decide +kernel
theorem dX13_arePassed_42 : decode cX13_arePassed 42 = .ok (.ireturn, 1) := by decide +kernel
theorem BX13_arePassed_0 {d bc bs : Nat} {h : aH} {n : Nat} {Q : aQ} {ar0 : Nat} {x1 : Int} {l2 : Option aV} {f1 : List aV} (h2 : h ar0 = cO 13 f1) (m3 : 24 < f1.length) (k : Rn d bc bs mX13_arePassed 5 [some (vR (some ar0)), some (vI x1), l2] [] (up h ar0 (cO 13 (f1.set 24 (vI 0)))) n Q) : Rn d (bc) (bs) mX13_arePassed 0 [some (vR (some ar0)), some (vI x1), l2] [] h n Q := by
  refine Rn_aload_n dX13_arePassed_0 rfl rfl rfl ?_
  refine Rn_iconst dX13_arePassed_1 rfl ?_
  refine Rn_putfield (ci := 13) (k := 24) dX13_arePassed_2 rfl in_13 tyX13_ok nmX13 (Nat.le_of_ble_eq_true rfl) wd_1376 rfl (Or.inl rfl) trivial m3 h2 ?_
  exact k
theorem BX13_arePassed_5 {d bc bs : Nat} {h : aH} {n : Nat} {Q : aQ} {r0 : Option Nat} {x1 : Int} {l2 : Option aV} (k : Rn d bc bs mX13_arePassed 7 [some (vR r0), some (vI x1), some (vI 0)] [] h n Q) : Rn d (bc) (bs) mX13_arePassed 5 [some (vR r0), some (vI x1), l2] [] h n Q := by
  refine Rn_iconst dX13_arePassed_5 rfl ?_
  refine Rn_istore_n dX13_arePassed_6 rfl (Nat.le_of_ble_eq_true rfl) rfl rfl ?_
  exact k
theorem BX13_arePassed_7 {d bc bs : Nat} {h : aH} {n : Nat} {Q : aQ} {r0 : Option Nat} {x1 x2 : Int} (kt : x1 ≤ x2 → Rn d bc bs mX13_arePassed 41 [some (vR r0), some (vI x1), some (vI x2)] [] h n Q) (kf : x2 < x1 → Rn d bc bs mX13_arePassed 12 [some (vR r0), some (vI x1), some (vI x2)] [] h n Q) : Rn d (bc) (bs) mX13_arePassed 7 [some (vR r0), some (vI x1), some (vI x2)] [] h n Q := by
  refine Rn_iload_n dX13_arePassed_7 rfl rfl ?_
  refine Rn_iload_n dX13_arePassed_8 rfl rfl ?_
  refine Rn_icmpge (tgt := 41) dX13_arePassed_9 rfl ?_ ?_
  · exact kt
  · exact kf
theorem BX13_arePassed_12 {d bc bs : Nat} {h : aH} {n : Nat} {Q : aQ} {ar0 at3 : Nat} {x1 x2 v7 : Int} {f1 : List aV} {w5 : List Int} (h2 : h ar0 = cO 13 f1) (g4 : f1[0]? = some (vR (some at3))) (h6 : h at3 = cI w5) (g8 : w5[(7 : Int).toNat]? = some v7) (kt : v7 ≠ 9999 → Rn d bc bs mX13_arePassed 27 [some (vR (some ar0)), some (vI x1), some (vI x2)] [] h n Q) (kf : v7 = 9999 → Rn d bc bs mX13_arePassed 25 [some (vR (some ar0)), some (vI x1), some (vI x2)] [] h n Q) : Rn d (bc) (bs) mX13_arePassed 12 [some (vR (some ar0)), some (vI x1), some (vI x2)] [] h n Q := by
  refine Rn_aload_n dX13_arePassed_12 rfl rfl rfl ?_
  refine Rn_getfield (ci := 13) (k := 0) dX13_arePassed_13 rfl in_13 (Nat.le_of_ble_eq_true rfl) wd_1352 rfl h2 g4 ?_
  refine Rn_bipush dX13_arePassed_16 rfl ?_
  refine Rn_iaload dX13_arePassed_18 h6 (by decide) g8 ?_
  refine Rn_sipush dX13_arePassed_19 rfl ?_
  refine Rn_icmpne (tgt := 27) dX13_arePassed_22 rfl ?_ ?_
  · exact kt
  · exact kf
theorem BX13_arePassed_25 {d bc bs : Nat} {h : aH} {n : Nat} {Q : aQ} {r0 : Option Nat} {x1 x2 : Int} (k : Q (some (vI 0)) h n) : Rn d (bc) (bs) mX13_arePassed 25 [some (vR r0), some (vI x1), some (vI x2)] [] h n Q := by
  refine Rn_iconst dX13_arePassed_25 rfl ?_
  exact Rn_zreturn rfl dX13_arePassed_26 (by decide) k
theorem BX13_arePassed_27 {d bc bs : Nat} {h : aH} {n : Nat} {Q : aQ} {ar0 : Nat} {x1 x2 : Int} {f1 : List aV} (h2 : h ar0 = cO 13 f1) (k : Rn d 0 0 mX13_keep 0 [some (vR (some ar0)), none, none] [] h n (fun v h1 n1 => Rn (d + 1) bc bs mX13_arePassed 31 [some (vR (some ar0)), some (vI x1), some (vI x2)] (v.toList ++ []) h1 n1 Q)) : Rn (d + 1) (bc) (bs) mX13_arePassed 27 [some (vR (some ar0)), some (vI x1), some (vI x2)] [] h n Q := by
  refine Rn_aload_n dX13_arePassed_27 rfl rfl rfl ?_
  exact Rn_callV (ci := 13) (avs := []) (st := []) (bc1 := 0) (bs1 := 0) (bc2 := bc) (bs2 := bs) fx_X13_keep dX13_arePassed_28 wd_1650 wd_1652 wd_75 rfl h2 rfl (Nat.le_of_ble_eq_true rfl) (Nat.le_of_ble_eq_true rfl) (by omega) (by omega) (ls1 := [some (vR (some ar0)), none, none]) rfl k
theorem BX13_arePassed_31 {d bc bs : Nat} {h : aH} {n : Nat} {Q : aQ} {ar0 : Nat} {x1 x2 : Int} {f1 : List aV} (h2 : h ar0 = cO 13 f1) (k : Rn d 0 0 mX13_pass 0 [some (vR (some ar0)), none] [] h n (fun v h1 n1 => Rn (d + 1) bc bs mX13_arePassed 35 [some (vR (some ar0)), some (vI x1), some (vI x2)] (v.toList ++ []) h1 n1 Q)) : Rn (d + 1) (bc) (bs) mX13_arePassed 31 [some (vR (some ar0)), some (vI x1), some (vI x2)] [] h n Q := by
  refine Rn_aload_n dX13_arePassed_31 rfl rfl rfl ?_
  exact Rn_callV (ci := 13) (avs := []) (st := []) (bc1 := 0) (bs1 := 0) (bc2 := bc) (bs2 := bs) fx_X13_pass dX13_arePassed_32 wd_1714 wd_1716 wd_88 rfl h2 rfl (Nat.le_of_ble_eq_true rfl) (Nat.le_of_ble_eq_true rfl) (by omega) (by omega) (ls1 := [some (vR (some ar0)), none]) rfl k
theorem BX13_arePassed_35 {d bc bs : Nat} {h : aH} {n : Nat} {Q : aQ} {r0 : Option Nat} {x1 x2 : Int} (b1 : -2147483648 ≤ x2 + 1 ∧ x2 + 1 < 2147483648) (k : Rn d bc bs mX13_arePassed 7 [some (vR r0), some (vI x1), some (vI (x2 + 1))] [] h n Q) : Rn d (bc) (bs) mX13_arePassed 35 [some (vR r0), some (vI x1), some (vI x2)] [] h n Q := by
  refine Rn_iinc dX13_arePassed_35 rfl (Nat.le_of_ble_eq_true rfl) rfl rfl rfl ?_
  rw [w32_id b1.1 b1.2]
  refine Rn_goto (tgt := 7) dX13_arePassed_38 rfl ?_
  exact k
theorem BX13_arePassed_41 {d bc bs : Nat} {h : aH} {n : Nat} {Q : aQ} {r0 : Option Nat} {x1 x2 : Int} (k : Q (some (vI 1)) h n) : Rn d (bc) (bs) mX13_arePassed 41 [some (vR r0), some (vI x1), some (vI x2)] [] h n Q := by
  refine Rn_iconst dX13_arePassed_41 rfl ?_
  exact Rn_zreturn rfl dX13_arePassed_42 (by decide) k
theorem dX13_tide_0 : decode cX13_tide 0 = .ok (.iload_n 1, 1) := by decide +kernel
theorem dX13_tide_1 : decode cX13_tide 1 = .ok (.iconst 1, 1) := by decide +kernel
theorem dX13_tide_2 : decode cX13_tide 2 = .ok (.bipush 60, 2) := by decide +kernel
theorem dX13_tide_4 : decode cX13_tide 4 = .ok (.invokestatic 72, 3) := by decide +kernel
theorem dX13_tide_7 : decode cX13_tide 7 = .ok (.ifCond .eq 33, 3) := by decide +kernel
theorem dX13_tide_10 : decode cX13_tide 10 = .ok (.aload_n 0, 1) := by decide +kernel
theorem dX13_tide_11 : decode cX13_tide 11 = .ok (.getfield 7, 3) := by decide +kernel
theorem dX13_tide_14 : decode cX13_tide 14 = .ok (.bipush 7, 2) := by decide +kernel
theorem dX13_tide_16 : decode cX13_tide 16 = .ok (.iaload, 1) := by decide +kernel
theorem dX13_tide_17 : decode cX13_tide 17 = .ok (.iload_n 1, 1) := by decide +kernel
theorem dX13_tide_18 : decode cX13_tide 18 = .ok (.iadd, 1) := by decide +kernel
theorem dX13_tide_19 : decode cX13_tide 19 = .ok (.sipush 9999, 3) := by decide +kernel
theorem dX13_tide_22 : decode cX13_tide 22 = .ok (.if_icmp .gt 18, 3) := by decide +kernel
theorem dX13_tide_25 : decode cX13_tide 25 = .ok (.aload_n 0, 1) := by decide +kernel
theorem dX13_tide_26 : decode cX13_tide 26 = .ok (.iload_n 1, 1) := by decide +kernel
theorem dX13_tide_27 : decode cX13_tide 27 = .ok (.invokevirtual 370, 3) := by decide +kernel
theorem dX13_tide_30 : decode cX13_tide 30 = .ok (.ifCond .eq 10, 3) := by decide +kernel
theorem dX13_tide_33 : decode cX13_tide 33 = .ok (.aload_n 0, 1) := by decide +kernel
theorem dX13_tide_34 : decode cX13_tide 34 = .ok (.getfield 319, 3) := by decide +kernel
theorem dX13_tide_37 : decode cX13_tide 37 = .ok (.goto 4, 3) := by decide +kernel
theorem dX13_tide_40 : decode cX13_tide 40 = .ok (.iconst (-1), 1) := by decide +kernel
theorem dX13_tide_41 : decode cX13_tide 41 = .ok (.ireturn, 1) := by decide +kernel
theorem BX13_tide_0 {d bc bs : Nat} {h : aH} {n : Nat} {Q : aQ} {r0 : Option Nat} {x1 : Int} (k : Rn d 0 0 mX13_isIn 0 [some (vI x1), some (vI 1), some (vI 60)] [] h n (fun v h1 n1 => Rn (d + 1) bc bs mX13_tide 7 [some (vR r0), some (vI x1)] (v.toList ++ []) h1 n1 Q)) : Rn (d + 1) (bc) (bs) mX13_tide 0 [some (vR r0), some (vI x1)] [] h n Q := by
  refine Rn_iload_n dX13_tide_0 rfl rfl ?_
  refine Rn_iconst dX13_tide_1 rfl ?_
  refine Rn_bipush dX13_tide_2 rfl ?_
  exact Rn_callS (avs := [vI x1, vI 1, vI 60]) (st := []) (bc1 := 0) (bs1 := 0) (bc2 := bc) (bs2 := bs) fx_X13_isIn dX13_tide_4 (Or.inl wd_1463) wd_1464 rfl (Nat.le_of_ble_eq_true rfl) (Nat.le_of_ble_eq_true rfl) (by omega) (by omega) (ls1 := [some (vI x1), some (vI 1), some (vI 60)]) rfl k
theorem BX13_tide_7 {d bc bs : Nat} {h : aH} {n : Nat} {Q : aQ} {r0 : Option Nat} {x1 s0 : Int} (kt : s0 = 0 → Rn d bc bs mX13_tide 40 [some (vR r0), some (vI x1)] [] h n Q) (kf : s0 ≠ 0 → Rn d bc bs mX13_tide 10 [some (vR r0), some (vI x1)] [] h n Q) : Rn d (bc) (bs) mX13_tide 7 [some (vR r0), some (vI x1)] [vI s0] h n Q := by
  refine Rn_ifeq (tgt := 40) dX13_tide_7 rfl ?_ ?_
  · exact kt
  · exact kf
theorem BX13_tide_10 {d bc bs : Nat} {h : aH} {n : Nat} {Q : aQ} {ar0 at3 : Nat} {x1 v7 : Int} {f1 : List aV} {w5 : List Int} (h2 : h ar0 = cO 13 f1) (g4 : f1[0]? = some (vR (some at3))) (h6 : h at3 = cI w5) (g8 : w5[(7 : Int).toNat]? = some v7) (b9 : -2147483648 ≤ v7 + x1 ∧ v7 + x1 < 2147483648) (kt : 9999 < (v7 + x1) → Rn d bc bs mX13_tide 40 [some (vR (some ar0)), some (vI x1)] [] h n Q) (kf : (v7 + x1) ≤ 9999 → Rn d bc bs mX13_tide 25 [some (vR (some ar0)), some (vI x1)] [] h n Q) : Rn d (bc) (bs) mX13_tide 10 [some (vR (some ar0)), some (vI x1)] [] h n Q := by
  refine Rn_aload_n dX13_tide_10 rfl rfl rfl ?_
  refine Rn_getfield (ci := 13) (k := 0) dX13_tide_11 rfl in_13 (Nat.le_of_ble_eq_true rfl) wd_1352 rfl h2 g4 ?_
  refine Rn_bipush dX13_tide_14 rfl ?_
  refine Rn_iaload dX13_tide_16 h6 (by decide) g8 ?_
  refine Rn_iload_n dX13_tide_17 rfl rfl ?_
  refine Rn_iadd dX13_tide_18 ?_
  rw [w32_id b9.1 b9.2]
  refine Rn_sipush dX13_tide_19 rfl ?_
  refine Rn_icmpgt (tgt := 40) dX13_tide_22 rfl ?_ ?_
  · exact kt
  · exact kf
theorem BX13_tide_25 {d bc bs : Nat} {h : aH} {n : Nat} {Q : aQ} {ar0 : Nat} {x1 : Int} {f1 : List aV} (h2 : h ar0 = cO 13 f1) (k : Rn d 0 0 mX13_arePassed 0 [some (vR (some ar0)), some (vI x1), none] [] h n (fun v h1 n1 => Rn (d + 1) bc bs mX13_tide 30 [some (vR (some ar0)), some (vI x1)] (v.toList ++ []) h1 n1 Q)) : Rn (d + 1) (bc) (bs) mX13_tide 25 [some (vR (some ar0)), some (vI x1)] [] h n Q := by
  refine Rn_aload_n dX13_tide_25 rfl rfl rfl ?_
  refine Rn_iload_n dX13_tide_26 rfl rfl ?_
  exact Rn_callV (ci := 13) (avs := [vI x1]) (st := []) (bc1 := 0) (bs1 := 0) (bc2 := bc) (bs2 := bs) fx_X13_arePassed dX13_tide_27 wd_1710 wd_1712 wd_87 rfl h2 rfl (Nat.le_of_ble_eq_true rfl) (Nat.le_of_ble_eq_true rfl) (by omega) (by omega) (ls1 := [some (vR (some ar0)), some (vI x1), none]) rfl k
theorem BX13_tide_30 {d bc bs : Nat} {h : aH} {n : Nat} {Q : aQ} {r0 : Option Nat} {x1 s0 : Int} (kt : s0 = 0 → Rn d bc bs mX13_tide 40 [some (vR r0), some (vI x1)] [] h n Q) (kf : s0 ≠ 0 → Rn d bc bs mX13_tide 33 [some (vR r0), some (vI x1)] [] h n Q) : Rn d (bc) (bs) mX13_tide 30 [some (vR r0), some (vI x1)] [vI s0] h n Q := by
  refine Rn_ifeq (tgt := 40) dX13_tide_30 rfl ?_ ?_
  · exact kt
  · exact kf
theorem BX13_tide_33 {d bc bs : Nat} {h : aH} {n : Nat} {Q : aQ} {ar0 : Nat} {x1 v3 : Int} {f1 : List aV} (h2 : h ar0 = cO 13 f1) (g4 : f1[24]? = some (vI v3)) (k : Q (some (vI v3)) h n) : Rn d (bc) (bs) mX13_tide 33 [some (vR (some ar0)), some (vI x1)] [] h n Q := by
  refine Rn_aload_n dX13_tide_33 rfl rfl rfl ?_
  refine Rn_getfield (ci := 13) (k := 24) dX13_tide_34 rfl in_13 (Nat.le_of_ble_eq_true rfl) wd_1376 rfl h2 g4 ?_
  refine Rn_goto (tgt := 41) dX13_tide_37 rfl ?_
  exact Rn_ireturn rfl dX13_tide_41 k
theorem BX13_tide_40 {d bc bs : Nat} {h : aH} {n : Nat} {Q : aQ} {r0 : Option Nat} {x1 : Int} (k : Q (some (vI (-1))) h n) : Rn d (bc) (bs) mX13_tide 40 [some (vR r0), some (vI x1)] [] h n Q := by
  refine Rn_iconst dX13_tide_40 rfl ?_
  exact Rn_ireturn rfl dX13_tide_41 k
theorem dX13_isPlayed_0 : decode cX13_isPlayed 0 = .ok (.aload_n 0, 1) := by decide +kernel
theorem dX13_isPlayed_1 : decode cX13_isPlayed 1 = .ok (.getfield 16, 3) := by decide +kernel
theorem dX13_isPlayed_4 : decode cX13_isPlayed 4 = .ok (.iload_n 1, 1) := by decide +kernel
theorem dX13_isPlayed_5 : decode cX13_isPlayed 5 = .ok (.iconst 1, 1) := by decide +kernel
theorem dX13_isPlayed_6 : decode cX13_isPlayed 6 = .ok (.iadd, 1) := by decide +kernel
theorem dX13_isPlayed_7 : decode cX13_isPlayed 7 = .ok (.iaload, 1) := by decide +kernel
theorem dX13_isPlayed_8 : decode cX13_isPlayed 8 = .ok (.istore_n 2, 1) := by decide +kernel
theorem dX13_isPlayed_9 : decode cX13_isPlayed 9 = .ok (.aload_n 0, 1) := by decide +kernel
theorem dX13_isPlayed_10 : decode cX13_isPlayed 10 = .ok (.getfield 16, 3) := by decide +kernel
theorem dX13_isPlayed_13 : decode cX13_isPlayed 13 = .ok (.iload_n 1, 1) := by decide +kernel
theorem dX13_isPlayed_14 : decode cX13_isPlayed 14 = .ok (.iconst 2, 1) := by decide +kernel
theorem dX13_isPlayed_15 : decode cX13_isPlayed 15 = .ok (.iadd, 1) := by decide +kernel
theorem dX13_isPlayed_16 : decode cX13_isPlayed 16 = .ok (.iaload, 1) := by decide +kernel
theorem dX13_isPlayed_17 : decode cX13_isPlayed 17 = .ok (.istore_n 3, 1) := by decide +kernel
theorem dX13_isPlayed_18 : decode cX13_isPlayed 18 = .ok (.aload_n 0, 1) := by decide +kernel
theorem dX13_isPlayed_19 : decode cX13_isPlayed 19 = .ok (.getfield 16, 3) := by decide +kernel
theorem dX13_isPlayed_22 : decode cX13_isPlayed 22 = .ok (.iload_n 1, 1) := by decide +kernel
theorem dX13_isPlayed_23 : decode cX13_isPlayed 23 = .ok (.iaload, 1) := by decide +kernel
theorem dX13_isPlayed_24 : decode cX13_isPlayed 24 = .ok (.tableswitch 112 2 7 #[40, 55, 70, 93, 100, 106], 40) := by decide +kernel
theorem dX13_isPlayed_64 : decode cX13_isPlayed 64 = .ok (.aload_n 0, 1) := by decide +kernel
theorem dX13_isPlayed_65 : decode cX13_isPlayed 65 = .ok (.iload_n 2, 1) := by decide +kernel
theorem dX13_isPlayed_66 : decode cX13_isPlayed 66 = .ok (.iload_n 3, 1) := by decide +kernel
theorem dX13_isPlayed_67 : decode cX13_isPlayed 67 = .ok (.invokevirtual 373, 3) := by decide +kernel
theorem dX13_isPlayed_70 : decode cX13_isPlayed 70 = .ok (.ifCond .lt 7, 3) := by decide +kernel
theorem dX13_isPlayed_73 : decode cX13_isPlayed 73 = .ok (.iconst 1, 1) := by decide +kernel
theorem dX13_isPlayed_74 : decode cX13_isPlayed 74 = .ok (.goto 4, 3) := by decide +kernel
theorem dX13_isPlayed_77 : decode cX13_isPlayed 77 = .ok (.iconst 0, 1) := by decide +kernel
theorem dX13_isPlayed_78 : decode cX13_isPlayed 78 = .ok (.ireturn, 1) := by decide +kernel
theorem dX13_isPlayed_79 : decode cX13_isPlayed 79 = .ok (.aload_n 0, 1) := by decide +kernel
theorem dX13_isPlayed_80 : decode cX13_isPlayed 80 = .ok (.iload_n 2, 1) := by decide +kernel
theorem dX13_isPlayed_81 : decode cX13_isPlayed 81 = .ok (.iload_n 3, 1) := by decide +kernel
theorem dX13_isPlayed_82 : decode cX13_isPlayed 82 = .ok (.aload_n 0, 1) := by decide +kernel
theorem dX13_isPlayed_83 : decode cX13_isPlayed 83 = .ok (.getfield 16, 3) := by decide +kernel
theorem dX13_isPlayed_86 : decode cX13_isPlayed 86 = .ok (.iload_n 1, 1) := by decide +kernel
theorem dX13_isPlayed_87 : decode cX13_isPlayed 87 = .ok (.iconst 3, 1) := by decide +kernel
theorem dX13_isPlayed_88 : decode cX13_isPlayed 88 = .ok (.iadd, 1) := by decide +kernel
theorem dX13_isPlayed_89 : decode cX13_isPlayed 89 = .ok (.iaload, 1) := by decide +kernel
theorem dX13_isPlayed_90 : decode cX13_isPlayed 90 = .ok (.invokevirtual 376, 3) := by decide +kernel
theorem dX13_isPlayed_93 : decode cX13_isPlayed 93 = .ok (.ireturn, 1) := by decide +kernel
theorem dX13_isPlayed_94 : decode cX13_isPlayed 94 = .ok (.aload_n 0, 1) := by decide +kernel
theorem dX13_isPlayed_95 : decode cX13_isPlayed 95 = .ok (.iload_n 2, 1) := by decide +kernel
theorem dX13_isPlayed_96 : decode cX13_isPlayed 96 = .ok (.iload_n 3, 1) := by decide +kernel
theorem dX13_isPlayed_97 : decode cX13_isPlayed 97 = .ok (.aload_n 0, 1) := by decide +kernel
theorem dX13_isPlayed_98 : decode cX13_isPlayed 98 = .ok (.getfield 16, 3) := by decide +kernel
theorem dX13_isPlayed_101 : decode cX13_isPlayed 101 = .ok (.iload_n 1, 1) := by decide +kernel
theorem dX13_isPlayed_102 : decode cX13_isPlayed 102 = .ok (.iconst 3, 1) := by decide +kernel
theorem dX13_isPlayed_103 : decode cX13_isPlayed 103 = .ok (.iadd, 1) := by decide +kernel
theorem dX13_isPlayed_104 : decode cX13_isPlayed 104 = .ok (.iaload, 1) := by decide +kernel
theorem dX13_isPlayed_105 : decode cX13_isPlayed 105 = .ok (.invokevirtual 379, 3) := by decide +kernel
theorem dX13_isPlayed_108 : decode cX13_isPlayed 108 = .ok (.ifCond .lt 7, 3) := by decide +kernel
theorem dX13_isPlayed_111 : decode cX13_isPlayed 111 = .ok (.iconst 1, 1) := by decide +kernel
theorem dX13_isPlayed_112 : decode cX13_isPlayed 112 = .ok (.goto 4, 3) := by decide +kernel
theorem dX13_isPlayed_115 : decode cX13_isPlayed 115 = .ok (.iconst 0, 1) := by decide +kernel
theorem dX13_isPlayed_116 : decode cX13_isPlayed 116 = .ok (.ireturn, 1) := by decide +kernel
theorem dX13_isPlayed_117 : decode cX13_isPlayed 117 = .ok (.aload_n 0, 1) := by decide +kernel
theorem dX13_isPlayed_118 : decode cX13_isPlayed 118 = .ok (.iload_n 2, 1) := by decide +kernel
theorem dX13_isPlayed_119 : decode cX13_isPlayed 119 = .ok (.iload_n 3, 1) := by decide +kernel
theorem dX13_isPlayed_120 : decode cX13_isPlayed 120 = .ok (.invokevirtual 382, 3) := by decide +kernel
theorem dX13_isPlayed_123 : decode cX13_isPlayed 123 = .ok (.ireturn, 1) := by decide +kernel
theorem dX13_isPlayed_124 : decode cX13_isPlayed 124 = .ok (.aload_n 0, 1) := by decide +kernel
theorem dX13_isPlayed_125 : decode cX13_isPlayed 125 = .ok (.iload_n 2, 1) := by decide +kernel
theorem dX13_isPlayed_126 : decode cX13_isPlayed 126 = .ok (.invokevirtual 385, 3) := by decide +kernel
theorem dX13_isPlayed_129 : decode cX13_isPlayed 129 = .ok (.ireturn, 1) := by decide +kernel
theorem dX13_isPlayed_130 : decode cX13_isPlayed 130 = .ok (.aload_n 0, 1) := by decide +kernel
theorem dX13_isPlayed_131 : decode cX13_isPlayed 131 = .ok (.iload_n 2, 1) := by decide +kernel
theorem dX13_isPlayed_132 : decode cX13_isPlayed 132 = .ok (.invokevirtual 370, 3) := by decide +kernel
theorem dX13_isPlayed_135 : decode cX13_isPlayed 135 = .ok (.ireturn, 1) := by decide +kernel
theorem dX13_isPlayed_136 : decode cX13_isPlayed 136 = .ok (.iconst 1, 1) := by decide +kernel
theorem dX13_isPlayed_137 : decode cX13_isPlayed 137 = .ok (.ireturn, 1) := by decide +kernel
theorem BX13_isPlayed_0 {d bc bs : Nat} {h : aH} {n : Nat} {Q : aQ} {ar0 at3 : Nat} {x1 v8 v12 v15 : Int} {l2 l3 : Option aV} {f1 : List aV} {w6 : List Int} (h2 : h ar0 = cO 13 f1) (g4 : f1[2]? = some (vR (some at3))) (b5 : -2147483648 ≤ x1 + 1 ∧ x1 + 1 < 2147483648) (h7 : h at3 = cI w6) (i9 : 0 ≤ x1 + 1) (g10 : w6[(x1 + 1 : Int).toNat]? = some v8) (b11 : -2147483648 ≤ x1 + 2 ∧ x1 + 2 < 2147483648) (i13 : 0 ≤ x1 + 2) (g14 : w6[(x1 + 2 : Int).toNat]? = some v12) (i16 : 0 ≤ x1) (g17 : w6[(x1 : Int).toNat]? = some v15) (kd : (v15 < 2 ∨ 7 < v15) → Rn d bc bs mX13_isPlayed 136 [some (vR (some ar0)), some (vI x1), some (vI v8), some (vI v12)] [] h n Q) (k2 : v15 = 2 → Rn d bc bs mX13_isPlayed 64 [some (vR (some ar0)), some (vI x1), some (vI v8), some (vI v12)] [] h n Q) (k3 : v15 = 3 → Rn d bc bs mX13_isPlayed 79 [some (vR (some ar0)), some (vI x1), some (vI v8), some (vI v12)] [] h n Q) (k4 : v15 = 4 → Rn d bc bs mX13_isPlayed 94 [some (vR (some ar0)), some (vI x1), some (vI v8), some (vI v12)] [] h n Q) (k5 : v15 = 5 → Rn d bc bs mX13_isPlayed 117 [some (vR (some ar0)), some (vI x1), some (vI v8), some (vI v12)] [] h n Q) (k6 : v15 = 6 → Rn d bc bs mX13_isPlayed 124 [some (vR (some ar0)), some (vI x1), some (vI v8), some (vI v12)] [] h n Q) (k7 : v15 = 7 → Rn d bc bs mX13_isPlayed 130 [some (vR (some ar0)), some (vI x1), some (vI v8), some (vI v12)] [] h n Q) : Rn d (bc) (bs) mX13_isPlayed 0 [some (vR (some ar0)), some (vI x1), l2, l3] [] h n Q := by
  refine Rn_aload_n dX13_isPlayed_0 rfl rfl rfl ?_
  refine Rn_getfield (ci := 13) (k := 2) dX13_isPlayed_1 rfl in_13 (Nat.le_of_ble_eq_true rfl) wd_1354 rfl h2 g4 ?_
  refine Rn_iload_n dX13_isPlayed_4 rfl rfl ?_
  refine Rn_iconst dX13_isPlayed_5 rfl ?_
  refine Rn_iadd dX13_isPlayed_6 ?_
  rw [w32_id b5.1 b5.2]
  refine Rn_iaload dX13_isPlayed_7 h7 i9 g10 ?_
  refine Rn_istore_n dX13_isPlayed_8 rfl (Nat.le_of_ble_eq_true rfl) rfl rfl ?_
  refine Rn_aload_n dX13_isPlayed_9 rfl rfl rfl ?_
  refine Rn_getfield (ci := 13) (k := 2) dX13_isPlayed_10 rfl in_13 (Nat.le_of_ble_eq_true rfl) wd_1354 rfl h2 g4 ?_
  refine Rn_iload_n dX13_isPlayed_13 rfl rfl ?_
  refine Rn_iconst dX13_isPlayed_14 rfl ?_
  refine Rn_iadd dX13_isPlayed_15 ?_
  rw [w32_id b11.1 b11.2]
  refine Rn_iaload dX13_isPlayed_16 h7 i13 g14 ?_
  refine Rn_istore_n dX13_isPlayed_17 rfl (Nat.le_of_ble_eq_true rfl) rfl rfl ?_
  refine Rn_aload_n dX13_isPlayed_18 rfl rfl rfl ?_
  refine Rn_getfield (ci := 13) (k := 2) dX13_isPlayed_19 rfl in_13 (Nat.le_of_ble_eq_true rfl) wd_1354 rfl h2 g4 ?_
  refine Rn_iload_n dX13_isPlayed_22 rfl rfl ?_
  refine Rn_iaload dX13_isPlayed_23 h7 i16 g17 ?_
  by_cases hq : v15 < 2 ∨ 7 < v15
  · exact Rn_tableOut (tgt := 136) dX13_isPlayed_24 hq rfl (kd hq)
  rcases (show v15 = 2 ∨ v15 = 3 ∨ v15 = 4 ∨ v15 = 5 ∨ v15 = 6 ∨ v15 = 7 by omega) with hz | hz | hz | hz | hz | hz
  · exact Rn_tableIn (tgt := 64) dX13_isPlayed_24 (by omega) (by omega) (by rw [hz] <;> rfl) rfl (k2 hz)
  · exact Rn_tableIn (tgt := 79) dX13_isPlayed_24 (by omega) (by omega) (by rw [hz] <;> rfl) rfl (k3 hz)
  · exact Rn_tableIn (tgt := 94) dX13_isPlayed_24 (by omega) (by omega) (by rw [hz] <;> rfl) rfl (k4 hz)
  · exact Rn_tableIn (tgt := 117) dX13_isPlayed_24 (by omega) (by omega) (by rw [hz] <;> rfl) rfl (k5 hz)
  · exact Rn_tableIn (tgt := 124) dX13_isPlayed_24 (by omega) (by omega) (by rw [hz] <;> rfl) rfl (k6 hz)
  · exact Rn_tableIn (tgt := 130) dX13_isPlayed_24 (by omega) (by omega) (by rw [hz] <;> rfl) rfl (k7 hz)
theorem BX13_isPlayed_64 {d bc bs : Nat} {h : aH} {n : Nat} {Q : aQ} {ar0 : Nat} {x1 x2 x3 : Int} {f1 : List aV} (h2 : h ar0 = cO 13 f1) (k : Rn d 0 0 mX13_person 0 [some (vR (some ar0)), some (vI x2), some (vI x3)] [] h n (fun v h1 n1 => Rn (d + 1) bc bs mX13_isPlayed 70 [some (vR (some ar0)), some (vI x1), some (vI x2), some (vI x3)] (v.toList ++ []) h1 n1 Q)) : Rn (d + 1) (bc) (bs) mX13_isPlayed 64 [some (vR (some ar0)), some (vI x1), some (vI x2), some (vI x3)] [] h n Q := by
  refine Rn_aload_n dX13_isPlayed_64 rfl rfl rfl ?_
  refine Rn_iload_n dX13_isPlayed_65 rfl rfl ?_
  refine Rn_iload_n dX13_isPlayed_66 rfl rfl ?_
  exact Rn_callV (ci := 13) (avs := [vI x2, vI x3]) (st := []) (bc1 := 0) (bs1 := 0) (bc2 := bc) (bs2 := bs) fx_X13_person dX13_isPlayed_67 wd_1793 wd_1457 wd_1458 rfl h2 rfl (Nat.le_of_ble_eq_true rfl) (Nat.le_of_ble_eq_true rfl) (by omega) (by omega) (ls1 := [some (vR (some ar0)), some (vI x2), some (vI x3)]) rfl k
theorem BX13_isPlayed_70 {d bc bs : Nat} {h : aH} {n : Nat} {Q : aQ} {r0 : Option Nat} {x1 x2 x3 s0 : Int} (kt : s0 < 0 → Rn d bc bs mX13_isPlayed 77 [some (vR r0), some (vI x1), some (vI x2), some (vI x3)] [] h n Q) (kf : 0 ≤ s0 → Rn d bc bs mX13_isPlayed 73 [some (vR r0), some (vI x1), some (vI x2), some (vI x3)] [] h n Q) : Rn d (bc) (bs) mX13_isPlayed 70 [some (vR r0), some (vI x1), some (vI x2), some (vI x3)] [vI s0] h n Q := by
  refine Rn_iflt (tgt := 77) dX13_isPlayed_70 rfl ?_ ?_
  · exact kt
  · exact kf
theorem BX13_isPlayed_73 {d bc bs : Nat} {h : aH} {n : Nat} {Q : aQ} {r0 : Option Nat} {x1 x2 x3 : Int} (k : Q (some (vI 1)) h n) : Rn d (bc) (bs) mX13_isPlayed 73 [some (vR r0), some (vI x1), some (vI x2), some (vI x3)] [] h n Q := by
  refine Rn_iconst dX13_isPlayed_73 rfl ?_
  refine Rn_goto (tgt := 78) dX13_isPlayed_74 rfl ?_
  exact Rn_zreturn rfl dX13_isPlayed_78 (by decide) k
theorem BX13_isPlayed_77 {d bc bs : Nat} {h : aH} {n : Nat} {Q : aQ} {r0 : Option Nat} {x1 x2 x3 : Int} (k : Q (some (vI 0)) h n) : Rn d (bc) (bs) mX13_isPlayed 77 [some (vR r0), some (vI x1), some (vI x2), some (vI x3)] [] h n Q := by
  refine Rn_iconst dX13_isPlayed_77 rfl ?_
  exact Rn_zreturn rfl dX13_isPlayed_78 (by decide) k
theorem BX13_isPlayed_79 {d bc bs : Nat} {h : aH} {n : Nat} {Q : aQ} {ar0 at3 : Nat} {x1 x2 x3 v8 : Int} {f1 : List aV} {w6 : List Int} (h2 : h ar0 = cO 13 f1) (g4 : f1[2]? = some (vR (some at3))) (b5 : -2147483648 ≤ x1 + 3 ∧ x1 + 3 < 2147483648) (h7 : h at3 = cI w6) (i9 : 0 ≤ x1 + 3) (g10 : w6[(x1 + 3 : Int).toNat]? = some v8) (k : Rn d 0 0 mX13_current 0 [some (vR (some ar0)), some (vI x2), some (vI x3), some (vI v8)] [] h n (fun v h1 n1 => Rn (d + 1) bc bs mX13_isPlayed 93 [some (vR (some ar0)), some (vI x1), some (vI x2), some (vI x3)] (v.toList ++ []) h1 n1 Q)) : Rn (d + 1) (bc) (bs) mX13_isPlayed 79 [some (vR (some ar0)), some (vI x1), some (vI x2), some (vI x3)] [] h n Q := by
  refine Rn_aload_n dX13_isPlayed_79 rfl rfl rfl ?_
  refine Rn_iload_n dX13_isPlayed_80 rfl rfl ?_
  refine Rn_iload_n dX13_isPlayed_81 rfl rfl ?_
  refine Rn_aload_n dX13_isPlayed_82 rfl rfl rfl ?_
  refine Rn_getfield (ci := 13) (k := 2) dX13_isPlayed_83 rfl in_13 (Nat.le_of_ble_eq_true rfl) wd_1354 rfl h2 g4 ?_
  refine Rn_iload_n dX13_isPlayed_86 rfl rfl ?_
  refine Rn_iconst dX13_isPlayed_87 rfl ?_
  refine Rn_iadd dX13_isPlayed_88 ?_
  rw [w32_id b5.1 b5.2]
  refine Rn_iaload dX13_isPlayed_89 h7 i9 g10 ?_
  exact Rn_callV (ci := 13) (avs := [vI x2, vI x3, vI v8]) (st := []) (bc1 := 0) (bs1 := 0) (bc2 := bc) (bs2 := bs) fx_X13_current dX13_isPlayed_90 wd_1794 wd_1467 wd_1468 rfl h2 rfl (Nat.le_of_ble_eq_true rfl) (Nat.le_of_ble_eq_true rfl) (by omega) (by omega) (ls1 := [some (vR (some ar0)), some (vI x2), some (vI x3), some (vI v8)]) rfl k
theorem BX13_isPlayed_93 {d bc bs : Nat} {h : aH} {n : Nat} {Q : aQ} {r0 : Option Nat} {x1 x2 x3 s0 : Int} (b1 : s0 = 0 ∨ s0 = 1) (k : Q (some (vI s0)) h n) : Rn d (bc) (bs) mX13_isPlayed 93 [some (vR r0), some (vI x1), some (vI x2), some (vI x3)] [vI s0] h n Q := by
  exact Rn_zreturn rfl dX13_isPlayed_93 b1 k
theorem BX13_isPlayed_94 {d bc bs : Nat} {h : aH} {n : Nat} {Q : aQ} {ar0 at3 : Nat} {x1 x2 x3 v8 : Int} {f1 : List aV} {w6 : List Int} (h2 : h ar0 = cO 13 f1) (g4 : f1[2]? = some (vR (some at3))) (b5 : -2147483648 ≤ x1 + 3 ∧ x1 + 3 < 2147483648) (h7 : h at3 = cI w6) (i9 : 0 ≤ x1 + 3) (g10 : w6[(x1 + 3 : Int).toNat]? = some v8) (k : Rn d 0 0 mX13_toss 0 [some (vR (some ar0)), some (vI x2), some (vI x3), some (vI v8)] [] h n (fun v h1 n1 => Rn (d + 1) bc bs mX13_isPlayed 108 [some (vR (some ar0)), some (vI x1), some (vI x2), some (vI x3)] (v.toList ++ []) h1 n1 Q)) : Rn (d + 1) (bc) (bs) mX13_isPlayed 94 [some (vR (some ar0)), some (vI x1), some (vI x2), some (vI x3)] [] h n Q := by
  refine Rn_aload_n dX13_isPlayed_94 rfl rfl rfl ?_
  refine Rn_iload_n dX13_isPlayed_95 rfl rfl ?_
  refine Rn_iload_n dX13_isPlayed_96 rfl rfl ?_
  refine Rn_aload_n dX13_isPlayed_97 rfl rfl rfl ?_
  refine Rn_getfield (ci := 13) (k := 2) dX13_isPlayed_98 rfl in_13 (Nat.le_of_ble_eq_true rfl) wd_1354 rfl h2 g4 ?_
  refine Rn_iload_n dX13_isPlayed_101 rfl rfl ?_
  refine Rn_iconst dX13_isPlayed_102 rfl ?_
  refine Rn_iadd dX13_isPlayed_103 ?_
  rw [w32_id b5.1 b5.2]
  refine Rn_iaload dX13_isPlayed_104 h7 i9 g10 ?_
  exact Rn_callV (ci := 13) (avs := [vI x2, vI x3, vI v8]) (st := []) (bc1 := 0) (bs1 := 0) (bc2 := bc) (bs2 := bs) fx_X13_toss dX13_isPlayed_105 wd_1795 wd_1639 wd_1640 rfl h2 rfl (Nat.le_of_ble_eq_true rfl) (Nat.le_of_ble_eq_true rfl) (by omega) (by omega) (ls1 := [some (vR (some ar0)), some (vI x2), some (vI x3), some (vI v8)]) rfl k
theorem BX13_isPlayed_108 {d bc bs : Nat} {h : aH} {n : Nat} {Q : aQ} {r0 : Option Nat} {x1 x2 x3 s0 : Int} (kt : s0 < 0 → Rn d bc bs mX13_isPlayed 115 [some (vR r0), some (vI x1), some (vI x2), some (vI x3)] [] h n Q) (kf : 0 ≤ s0 → Rn d bc bs mX13_isPlayed 111 [some (vR r0), some (vI x1), some (vI x2), some (vI x3)] [] h n Q) : Rn d (bc) (bs) mX13_isPlayed 108 [some (vR r0), some (vI x1), some (vI x2), some (vI x3)] [vI s0] h n Q := by
  refine Rn_iflt (tgt := 115) dX13_isPlayed_108 rfl ?_ ?_
  · exact kt
  · exact kf
theorem BX13_isPlayed_111 {d bc bs : Nat} {h : aH} {n : Nat} {Q : aQ} {r0 : Option Nat} {x1 x2 x3 : Int} (k : Q (some (vI 1)) h n) : Rn d (bc) (bs) mX13_isPlayed 111 [some (vR r0), some (vI x1), some (vI x2), some (vI x3)] [] h n Q := by
  refine Rn_iconst dX13_isPlayed_111 rfl ?_
  refine Rn_goto (tgt := 116) dX13_isPlayed_112 rfl ?_
  exact Rn_zreturn rfl dX13_isPlayed_116 (by decide) k
theorem BX13_isPlayed_115 {d bc bs : Nat} {h : aH} {n : Nat} {Q : aQ} {r0 : Option Nat} {x1 x2 x3 : Int} (k : Q (some (vI 0)) h n) : Rn d (bc) (bs) mX13_isPlayed 115 [some (vR r0), some (vI x1), some (vI x2), some (vI x3)] [] h n Q := by
  refine Rn_iconst dX13_isPlayed_115 rfl ?_
  exact Rn_zreturn rfl dX13_isPlayed_116 (by decide) k
theorem BX13_isPlayed_117 {d bc bs : Nat} {h : aH} {n : Nat} {Q : aQ} {ar0 : Nat} {x1 x2 x3 : Int} {f1 : List aV} (h2 : h ar0 = cO 13 f1) (k : Rn d 0 0 mX13_fish 0 [some (vR (some ar0)), some (vI x2), some (vI x3)] [] h n (fun v h1 n1 => Rn (d + 1) bc bs mX13_isPlayed 123 [some (vR (some ar0)), some (vI x1), some (vI x2), some (vI x3)] (v.toList ++ []) h1 n1 Q)) : Rn (d + 1) (bc) (bs) mX13_isPlayed 117 [some (vR (some ar0)), some (vI x1), some (vI x2), some (vI x3)] [] h n Q := by
  refine Rn_aload_n dX13_isPlayed_117 rfl rfl rfl ?_
  refine Rn_iload_n dX13_isPlayed_118 rfl rfl ?_
  refine Rn_iload_n dX13_isPlayed_119 rfl rfl ?_
  exact Rn_callV (ci := 13) (avs := [vI x2, vI x3]) (st := []) (bc1 := 0) (bs1 := 0) (bc2 := bc) (bs2 := bs) fx_X13_fish dX13_isPlayed_120 wd_1796 wd_1667 wd_1668 rfl h2 rfl (Nat.le_of_ble_eq_true rfl) (Nat.le_of_ble_eq_true rfl) (by omega) (by omega) (ls1 := [some (vR (some ar0)), some (vI x2), some (vI x3)]) rfl k
theorem BX13_isPlayed_123 {d bc bs : Nat} {h : aH} {n : Nat} {Q : aQ} {r0 : Option Nat} {x1 x2 x3 s0 : Int} (b1 : s0 = 0 ∨ s0 = 1) (k : Q (some (vI s0)) h n) : Rn d (bc) (bs) mX13_isPlayed 123 [some (vR r0), some (vI x1), some (vI x2), some (vI x3)] [vI s0] h n Q := by
  exact Rn_zreturn rfl dX13_isPlayed_123 b1 k
theorem BX13_isPlayed_124 {d bc bs : Nat} {h : aH} {n : Nat} {Q : aQ} {ar0 : Nat} {x1 x2 x3 : Int} {f1 : List aV} (h2 : h ar0 = cO 13 f1) (k : Rn d 0 0 mX13_again 0 [some (vR (some ar0)), some (vI x2)] [] h n (fun v h1 n1 => Rn (d + 1) bc bs mX13_isPlayed 129 [some (vR (some ar0)), some (vI x1), some (vI x2), some (vI x3)] (v.toList ++ []) h1 n1 Q)) : Rn (d + 1) (bc) (bs) mX13_isPlayed 124 [some (vR (some ar0)), some (vI x1), some (vI x2), some (vI x3)] [] h n Q := by
  refine Rn_aload_n dX13_isPlayed_124 rfl rfl rfl ?_
  refine Rn_iload_n dX13_isPlayed_125 rfl rfl ?_
  exact Rn_callV (ci := 13) (avs := [vI x2]) (st := []) (bc1 := 0) (bs1 := 0) (bc2 := bc) (bs2 := bs) fx_X13_again dX13_isPlayed_126 wd_1797 wd_1695 wd_1696 rfl h2 rfl (Nat.le_of_ble_eq_true rfl) (Nat.le_of_ble_eq_true rfl) (by omega) (by omega) (ls1 := [some (vR (some ar0)), some (vI x2)]) rfl k
theorem BX13_isPlayed_129 {d bc bs : Nat} {h : aH} {n : Nat} {Q : aQ} {r0 : Option Nat} {x1 x2 x3 s0 : Int} (b1 : s0 = 0 ∨ s0 = 1) (k : Q (some (vI s0)) h n) : Rn d (bc) (bs) mX13_isPlayed 129 [some (vR r0), some (vI x1), some (vI x2), some (vI x3)] [vI s0] h n Q := by
  exact Rn_zreturn rfl dX13_isPlayed_129 b1 k
theorem BX13_isPlayed_130 {d bc bs : Nat} {h : aH} {n : Nat} {Q : aQ} {ar0 : Nat} {x1 x2 x3 : Int} {f1 : List aV} (h2 : h ar0 = cO 13 f1) (k : Rn d 0 0 mX13_arePassed 0 [some (vR (some ar0)), some (vI x2), none] [] h n (fun v h1 n1 => Rn (d + 1) bc bs mX13_isPlayed 135 [some (vR (some ar0)), some (vI x1), some (vI x2), some (vI x3)] (v.toList ++ []) h1 n1 Q)) : Rn (d + 1) (bc) (bs) mX13_isPlayed 130 [some (vR (some ar0)), some (vI x1), some (vI x2), some (vI x3)] [] h n Q := by
  refine Rn_aload_n dX13_isPlayed_130 rfl rfl rfl ?_
  refine Rn_iload_n dX13_isPlayed_131 rfl rfl ?_
  exact Rn_callV (ci := 13) (avs := [vI x2]) (st := []) (bc1 := 0) (bs1 := 0) (bc2 := bc) (bs2 := bs) fx_X13_arePassed dX13_isPlayed_132 wd_1710 wd_1712 wd_87 rfl h2 rfl (Nat.le_of_ble_eq_true rfl) (Nat.le_of_ble_eq_true rfl) (by omega) (by omega) (ls1 := [some (vR (some ar0)), some (vI x2), none]) rfl k
theorem BX13_isPlayed_135 {d bc bs : Nat} {h : aH} {n : Nat} {Q : aQ} {r0 : Option Nat} {x1 x2 x3 s0 : Int} (b1 : s0 = 0 ∨ s0 = 1) (k : Q (some (vI s0)) h n) : Rn d (bc) (bs) mX13_isPlayed 135 [some (vR r0), some (vI x1), some (vI x2), some (vI x3)] [vI s0] h n Q := by
  exact Rn_zreturn rfl dX13_isPlayed_135 b1 k
theorem BX13_isPlayed_136 {d bc bs : Nat} {h : aH} {n : Nat} {Q : aQ} {r0 : Option Nat} {x1 x2 x3 : Int} (k : Q (some (vI 1)) h n) : Rn d (bc) (bs) mX13_isPlayed 136 [some (vR r0), some (vI x1), some (vI x2), some (vI x3)] [] h n Q := by
  refine Rn_iconst dX13_isPlayed_136 rfl ?_
  exact Rn_zreturn rfl dX13_isPlayed_137 (by decide) k
theorem dX13_played_0 : decode cX13_played 0 = .ok (.iload_n 1, 1) := by decide +kernel
theorem dX13_played_1 : decode cX13_played 1 = .ok (.iconst 0, 1) := by decide +kernel
theorem dX13_played_2 : decode cX13_played 2 = .ok (.aload_n 0, 1) := by decide +kernel
theorem dX13_played_3 : decode cX13_played 3 = .ok (.getfield 7, 3) := by decide +kernel
theorem dX13_played_6 : decode cX13_played 6 = .ok (.iconst 1, 1) := by decide +kernel
theorem dX13_played_7 : decode cX13_played 7 = .ok (.iaload, 1) := by decide +kernel
theorem dX13_played_8 : decode cX13_played 8 = .ok (.iconst 1, 1) := by decide +kernel
theorem dX13_played_9 : decode cX13_played 9 = .ok (.isub, 1) := by decide +kernel
theorem dX13_played_10 : decode cX13_played 10 = .ok (.invokestatic 72, 3) := by decide +kernel
theorem dX13_played_13 : decode cX13_played 13 = .ok (.ifCond .ne 6, 3) := by decide +kernel
theorem dX13_played_16 : decode cX13_played 16 = .ok (.bipush (-2), 2) := by decide +kernel
theorem dX13_played_18 : decode cX13_played 18 = .ok (.ireturn, 1) := by decide +kernel
theorem dX13_played_19 : decode cX13_played 19 = .ok (.iconst 0, 1) := by decide +kernel
theorem dX13_played_20 : decode cX13_played 20 = .ok (.istore_n 2, 1) := by decide +kernel
theorem dX13_played_21 : decode cX13_played 21 = .ok (.iload_n 2, 1) := by decide +kernel
theorem dX13_played_22 : decode cX13_played 22 = .ok (.aload_n 0, 1) := by decide +kernel
theorem dX13_played_23 : decode cX13_played 23 = .ok (.getfield 16, 3) := by decide +kernel
theorem dX13_played_26 : decode cX13_played 26 = .ok (.sipush 705, 3) := by decide +kernel
theorem dX13_played_29 : decode cX13_played 29 = .ok (.iload_n 1, 1) := by decide +kernel
theorem dX13_played_30 : decode cX13_played 30 = .ok (.imul, 1) := by decide +kernel
theorem dX13_played_31 : decode cX13_played 31 = .ok (.iaload, 1) := by decide +kernel
theorem dX13_played_32 : decode cX13_played 32 = .ok (.if_icmp .ge 29, 3) := by decide +kernel
theorem dX13_played_35 : decode cX13_played 35 = .ok (.aload_n 0, 1) := by decide +kernel
theorem dX13_played_36 : decode cX13_played 36 = .ok (.sipush 705, 3) := by decide +kernel
theorem dX13_played_39 : decode cX13_played 39 = .ok (.iload_n 1, 1) := by decide +kernel
theorem dX13_played_40 : decode cX13_played 40 = .ok (.imul, 1) := by decide +kernel
theorem dX13_played_41 : decode cX13_played 41 = .ok (.iconst 1, 1) := by decide +kernel
theorem dX13_played_42 : decode cX13_played 42 = .ok (.iadd, 1) := by decide +kernel
theorem dX13_played_43 : decode cX13_played 43 = .ok (.iconst 4, 1) := by decide +kernel
theorem dX13_played_44 : decode cX13_played 44 = .ok (.iload_n 2, 1) := by decide +kernel
theorem dX13_played_45 : decode cX13_played 45 = .ok (.imul, 1) := by decide +kernel
theorem dX13_played_46 : decode cX13_played 46 = .ok (.iadd, 1) := by decide +kernel
theorem dX13_played_47 : decode cX13_played 47 = .ok (.invokevirtual 388, 3) := by decide +kernel
theorem dX13_played_50 : decode cX13_played 50 = .ok (.ifCond .ne 5, 3) := by decide +kernel
theorem dX13_played_53 : decode cX13_played 53 = .ok (.iload_n 2, 1) := by decide +kernel
theorem dX13_played_54 : decode cX13_played 54 = .ok (.ireturn, 1) := by decide +kernel
theorem dX13_played_55 : decode cX13_played 55 = .ok (.iinc 2 1, 3) := by decide +kernel
theorem dX13_played_58 : decode cX13_played 58 = .ok (.goto (-37), 3) := by decide +kernel
theorem dX13_played_61 : decode cX13_played 61 = .ok (.iconst (-1), 1) := by decide +kernel
theorem dX13_played_62 : decode cX13_played 62 = .ok (.ireturn, 1) := by decide +kernel
theorem BX13_played_0 {d bc bs : Nat} {h : aH} {n : Nat} {Q : aQ} {ar0 at3 : Nat} {x1 v7 : Int} {l2 : Option aV} {f1 : List aV} {w5 : List Int} (h2 : h ar0 = cO 13 f1) (g4 : f1[0]? = some (vR (some at3))) (h6 : h at3 = cI w5) (g8 : w5[(1 : Int).toNat]? = some v7) (b9 : -2147483648 ≤ v7 - 1 ∧ v7 - 1 < 2147483648) (k : Rn d 0 0 mX13_isIn 0 [some (vI x1), some (vI 0), some (vI (v7 - 1))] [] h n (fun v h1 n1 => Rn (d + 1) bc bs mX13_played 13 [some (vR (some ar0)), some (vI x1), l2] (v.toList ++ []) h1 n1 Q)) : Rn (d + 1) (bc) (bs) mX13_played 0 [some (vR (some ar0)), some (vI x1), l2] [] h n Q := by
  refine Rn_iload_n dX13_played_0 rfl rfl ?_
  refine Rn_iconst dX13_played_1 rfl ?_
  refine Rn_aload_n dX13_played_2 rfl rfl rfl ?_
  refine Rn_getfield (ci := 13) (k := 0) dX13_played_3 rfl in_13 (Nat.le_of_ble_eq_true rfl) wd_1352 rfl h2 g4 ?_
  refine Rn_iconst dX13_played_6 rfl ?_
  refine Rn_iaload dX13_played_7 h6 (by decide) g8 ?_
  refine Rn_iconst dX13_played_8 rfl ?_
  refine Rn_isub dX13_played_9 ?_
  rw [w32_id b9.1 b9.2]
  exact Rn_callS (avs := [vI x1, vI 0, vI (v7 - 1)]) (st := []) (bc1 := 0) (bs1 := 0) (bc2 := bc) (bs2 := bs) fx_X13_isIn dX13_played_10 (Or.inl wd_1463) wd_1464 rfl (Nat.le_of_ble_eq_true rfl) (Nat.le_of_ble_eq_true rfl) (by omega) (by omega) (ls1 := [some (vI x1), some (vI 0), some (vI (v7 - 1))]) rfl k
theorem BX13_played_13 {d bc bs : Nat} {h : aH} {n : Nat} {Q : aQ} {r0 : Option Nat} {x1 s0 : Int} {l2 : Option aV} (kt : s0 ≠ 0 → Rn d bc bs mX13_played 19 [some (vR r0), some (vI x1), l2] [] h n Q) (kf : s0 = 0 → Rn d bc bs mX13_played 16 [some (vR r0), some (vI x1), l2] [] h n Q) : Rn d (bc) (bs) mX13_played 13 [some (vR r0), some (vI x1), l2] [vI s0] h n Q := by
  refine Rn_ifne (tgt := 19) dX13_played_13 rfl ?_ ?_
  · exact kt
  · exact kf
theorem BX13_played_16 {d bc bs : Nat} {h : aH} {n : Nat} {Q : aQ} {r0 : Option Nat} {x1 : Int} {l2 : Option aV} (k : Q (some (vI (-2))) h n) : Rn d (bc) (bs) mX13_played 16 [some (vR r0), some (vI x1), l2] [] h n Q := by
  refine Rn_bipush dX13_played_16 rfl ?_
  exact Rn_ireturn rfl dX13_played_18 k
theorem BX13_played_19 {d bc bs : Nat} {h : aH} {n : Nat} {Q : aQ} {r0 : Option Nat} {x1 : Int} {l2 : Option aV} (k : Rn d bc bs mX13_played 21 [some (vR r0), some (vI x1), some (vI 0)] [] h n Q) : Rn d (bc) (bs) mX13_played 19 [some (vR r0), some (vI x1), l2] [] h n Q := by
  refine Rn_iconst dX13_played_19 rfl ?_
  refine Rn_istore_n dX13_played_20 rfl (Nat.le_of_ble_eq_true rfl) rfl rfl ?_
  exact k
theorem BX13_played_21 {d bc bs : Nat} {h : aH} {n : Nat} {Q : aQ} {ar0 at3 : Nat} {x1 x2 v8 : Int} {f1 : List aV} {w6 : List Int} (h2 : h ar0 = cO 13 f1) (g4 : f1[2]? = some (vR (some at3))) (b5 : -2147483648 ≤ 705 * x1 ∧ 705 * x1 < 2147483648) (h7 : h at3 = cI w6) (i9 : 0 ≤ 705 * x1) (g10 : w6[(705 * x1 : Int).toNat]? = some v8) (kt : v8 ≤ x2 → Rn d bc bs mX13_played 61 [some (vR (some ar0)), some (vI x1), some (vI x2)] [] h n Q) (kf : x2 < v8 → Rn d bc bs mX13_played 35 [some (vR (some ar0)), some (vI x1), some (vI x2)] [] h n Q) : Rn d (bc) (bs) mX13_played 21 [some (vR (some ar0)), some (vI x1), some (vI x2)] [] h n Q := by
  refine Rn_iload_n dX13_played_21 rfl rfl ?_
  refine Rn_aload_n dX13_played_22 rfl rfl rfl ?_
  refine Rn_getfield (ci := 13) (k := 2) dX13_played_23 rfl in_13 (Nat.le_of_ble_eq_true rfl) wd_1354 rfl h2 g4 ?_
  refine Rn_sipush dX13_played_26 rfl ?_
  refine Rn_iload_n dX13_played_29 rfl rfl ?_
  refine Rn_imul dX13_played_30 ?_
  rw [w32_id b5.1 b5.2]
  refine Rn_iaload dX13_played_31 h7 i9 g10 ?_
  refine Rn_icmpge (tgt := 61) dX13_played_32 rfl ?_ ?_
  · exact kt
  · exact kf
theorem BX13_played_35 {d bc bs : Nat} {h : aH} {n : Nat} {Q : aQ} {ar0 : Nat} {x1 x2 : Int} {f5 : List aV} (b1 : -2147483648 ≤ 705 * x1 ∧ 705 * x1 < 2147483648) (b2 : -2147483648 ≤ (705 * x1) + 1 ∧ (705 * x1) + 1 < 2147483648) (b3 : -2147483648 ≤ 4 * x2 ∧ 4 * x2 < 2147483648) (b4 : -2147483648 ≤ ((705 * x1) + 1) + (4 * x2) ∧ ((705 * x1) + 1) + (4 * x2) < 2147483648) (h6 : h ar0 = cO 13 f5) (k : Rn d 0 0 mX13_isPlayed 0 [some (vR (some ar0)), some (vI (((705 * x1) + 1) + (4 * x2))), none, none] [] h n (fun v h1 n1 => Rn (d + 1) bc bs mX13_played 50 [some (vR (some ar0)), some (vI x1), some (vI x2)] (v.toList ++ []) h1 n1 Q)) : Rn (d + 1) (bc) (bs) mX13_played 35 [some (vR (some ar0)), some (vI x1), some (vI x2)] [] h n Q := by
  refine Rn_aload_n dX13_played_35 rfl rfl rfl ?_
  refine Rn_sipush dX13_played_36 rfl ?_
  refine Rn_iload_n dX13_played_39 rfl rfl ?_
  refine Rn_imul dX13_played_40 ?_
  rw [w32_id b1.1 b1.2]
  refine Rn_iconst dX13_played_41 rfl ?_
  refine Rn_iadd dX13_played_42 ?_
  rw [w32_id b2.1 b2.2]
  refine Rn_iconst dX13_played_43 rfl ?_
  refine Rn_iload_n dX13_played_44 rfl rfl ?_
  refine Rn_imul dX13_played_45 ?_
  rw [w32_id b3.1 b3.2]
  refine Rn_iadd dX13_played_46 ?_
  rw [w32_id b4.1 b4.2]
  exact Rn_callV (ci := 13) (avs := [vI (((705 * x1) + 1) + (4 * x2))]) (st := []) (bc1 := 0) (bs1 := 0) (bc2 := bc) (bs2 := bs) fx_X13_isPlayed dX13_played_47 wd_1789 wd_1791 wd_100 rfl h6 rfl (Nat.le_of_ble_eq_true rfl) (Nat.le_of_ble_eq_true rfl) (by omega) (by omega) (ls1 := [some (vR (some ar0)), some (vI (((705 * x1) + 1) + (4 * x2))), none, none]) rfl k
theorem BX13_played_50 {d bc bs : Nat} {h : aH} {n : Nat} {Q : aQ} {r0 : Option Nat} {x1 x2 s0 : Int} (kt : s0 ≠ 0 → Rn d bc bs mX13_played 55 [some (vR r0), some (vI x1), some (vI x2)] [] h n Q) (kf : s0 = 0 → Rn d bc bs mX13_played 53 [some (vR r0), some (vI x1), some (vI x2)] [] h n Q) : Rn d (bc) (bs) mX13_played 50 [some (vR r0), some (vI x1), some (vI x2)] [vI s0] h n Q := by
  refine Rn_ifne (tgt := 55) dX13_played_50 rfl ?_ ?_
  · exact kt
  · exact kf
theorem BX13_played_53 {d bc bs : Nat} {h : aH} {n : Nat} {Q : aQ} {r0 : Option Nat} {x1 x2 : Int} (k : Q (some (vI x2)) h n) : Rn d (bc) (bs) mX13_played 53 [some (vR r0), some (vI x1), some (vI x2)] [] h n Q := by
  refine Rn_iload_n dX13_played_53 rfl rfl ?_
  exact Rn_ireturn rfl dX13_played_54 k
theorem BX13_played_55 {d bc bs : Nat} {h : aH} {n : Nat} {Q : aQ} {r0 : Option Nat} {x1 x2 : Int} (b1 : -2147483648 ≤ x2 + 1 ∧ x2 + 1 < 2147483648) (k : Rn d bc bs mX13_played 21 [some (vR r0), some (vI x1), some (vI (x2 + 1))] [] h n Q) : Rn d (bc) (bs) mX13_played 55 [some (vR r0), some (vI x1), some (vI x2)] [] h n Q := by
  refine Rn_iinc dX13_played_55 rfl (Nat.le_of_ble_eq_true rfl) rfl rfl rfl ?_
  rw [w32_id b1.1 b1.2]
  refine Rn_goto (tgt := 21) dX13_played_58 rfl ?_
  exact k
theorem BX13_played_61 {d bc bs : Nat} {h : aH} {n : Nat} {Q : aQ} {r0 : Option Nat} {x1 x2 : Int} (k : Q (some (vI (-1))) h n) : Rn d (bc) (bs) mX13_played 61 [some (vR r0), some (vI x1), some (vI x2)] [] h n Q := by
  refine Rn_iconst dX13_played_61 rfl ?_
  exact Rn_ireturn rfl dX13_played_62 k
theorem dX13_happens_0 : decode cX13_happens 0 = .ok (.iload_n 1, 1) := by decide +kernel
theorem dX13_happens_1 : decode cX13_happens 1 = .ok (.bipush 6, 2) := by decide +kernel
theorem dX13_happens_3 : decode cX13_happens 3 = .ok (.irem, 1) := by decide +kernel
theorem dX13_happens_4 : decode cX13_happens 4 = .ok (.iconst 3, 1) := by decide +kernel
theorem dX13_happens_5 : decode cX13_happens 5 = .ok (.if_icmp .le 21, 3) := by decide +kernel
theorem dX13_happens_8 : decode cX13_happens 8 = .ok (.aload_n 0, 1) := by decide +kernel
theorem dX13_happens_9 : decode cX13_happens 9 = .ok (.getfield 7, 3) := by decide +kernel
theorem dX13_happens_12 : decode cX13_happens 12 = .ok (.bipush 7, 2) := by decide +kernel
theorem dX13_happens_14 : decode cX13_happens 14 = .ok (.iaload, 1) := by decide +kernel
theorem dX13_happens_15 : decode cX13_happens 15 = .ok (.sipush 9999, 3) := by decide +kernel
theorem dX13_happens_18 : decode cX13_happens 18 = .ok (.if_icmp .ge 7, 3) := by decide +kernel
theorem dX13_happens_21 : decode cX13_happens 21 = .ok (.aload_n 0, 1) := by decide +kernel
theorem dX13_happens_22 : decode cX13_happens 22 = .ok (.invokevirtual 367, 3) := by decide +kernel
theorem dX13_happens_25 : decode cX13_happens 25 = .ok (.return_, 1) := by decide +kernel
theorem dX13_happens_26 : decode cX13_happens 26 = .ok (.iload_n 1, 1) := by decide +kernel
theorem dX13_happens_27 : decode cX13_happens 27 = .ok (.bipush 6, 2) := by decide +kernel
theorem dX13_happens_29 : decode cX13_happens 29 = .ok (.irem, 1) := by decide +kernel
theorem dX13_happens_30 : decode cX13_happens 30 = .ok (.iconst 2, 1) := by decide +kernel
theorem dX13_happens_31 : decode cX13_happens 31 = .ok (.if_icmp .ge 68, 3) := by decide +kernel
theorem dX13_happens_34 : decode cX13_happens 34 = .ok (.aload_n 0, 1) := by decide +kernel
theorem dX13_happens_35 : decode cX13_happens 35 = .ok (.getfield 7, 3) := by decide +kernel
theorem dX13_happens_38 : decode cX13_happens 38 = .ok (.iconst 0, 1) := by decide +kernel
theorem dX13_happens_39 : decode cX13_happens 39 = .ok (.iaload, 1) := by decide +kernel
theorem dX13_happens_40 : decode cX13_happens 40 = .ok (.ifCond .le 58, 3) := by decide +kernel
theorem dX13_happens_43 : decode cX13_happens 43 = .ok (.aload_n 0, 1) := by decide +kernel
theorem dX13_happens_44 : decode cX13_happens 44 = .ok (.iload_n 1, 1) := by decide +kernel
theorem dX13_happens_45 : decode cX13_happens 45 = .ok (.aload_n 0, 1) := by decide +kernel
theorem dX13_happens_46 : decode cX13_happens 46 = .ok (.getfield 7, 3) := by decide +kernel
theorem dX13_happens_49 : decode cX13_happens 49 = .ok (.iconst 0, 1) := by decide +kernel
theorem dX13_happens_50 : decode cX13_happens 50 = .ok (.iaload, 1) := by decide +kernel
theorem dX13_happens_51 : decode cX13_happens 51 = .ok (.irem, 1) := by decide +kernel
theorem dX13_happens_52 : decode cX13_happens 52 = .ok (.iload_n 1, 1) := by decide +kernel
theorem dX13_happens_53 : decode cX13_happens 53 = .ok (.bipush 6, 2) := by decide +kernel
theorem dX13_happens_55 : decode cX13_happens 55 = .ok (.idiv, 1) := by decide +kernel
theorem dX13_happens_56 : decode cX13_happens 56 = .ok (.aload_n 0, 1) := by decide +kernel
theorem dX13_happens_57 : decode cX13_happens 57 = .ok (.getfield 7, 3) := by decide +kernel
theorem dX13_happens_60 : decode cX13_happens 60 = .ok (.iconst 0, 1) := by decide +kernel
theorem dX13_happens_61 : decode cX13_happens 61 = .ok (.iaload, 1) := by decide +kernel
theorem dX13_happens_62 : decode cX13_happens 62 = .ok (.irem, 1) := by decide +kernel
theorem dX13_happens_63 : decode cX13_happens 63 = .ok (.invokevirtual 346, 3) := by decide +kernel
theorem dX13_happens_66 : decode cX13_happens 66 = .ok (.ifCond .eq 32, 3) := by decide +kernel
theorem dX13_happens_69 : decode cX13_happens 69 = .ok (.aload_n 0, 1) := by decide +kernel
theorem dX13_happens_70 : decode cX13_happens 70 = .ok (.iload_n 1, 1) := by decide +kernel
theorem dX13_happens_71 : decode cX13_happens 71 = .ok (.aload_n 0, 1) := by decide +kernel
theorem dX13_happens_72 : decode cX13_happens 72 = .ok (.getfield 7, 3) := by decide +kernel
theorem dX13_happens_75 : decode cX13_happens 75 = .ok (.iconst 0, 1) := by decide +kernel
theorem dX13_happens_76 : decode cX13_happens 76 = .ok (.iaload, 1) := by decide +kernel
theorem dX13_happens_77 : decode cX13_happens 77 = .ok (.irem, 1) := by decide +kernel
theorem dX13_happens_78 : decode cX13_happens 78 = .ok (.iload_n 1, 1) := by decide +kernel
theorem dX13_happens_79 : decode cX13_happens 79 = .ok (.bipush 6, 2) := by decide +kernel
theorem dX13_happens_81 : decode cX13_happens 81 = .ok (.idiv, 1) := by decide +kernel
theorem dX13_happens_82 : decode cX13_happens 82 = .ok (.aload_n 0, 1) := by decide +kernel
theorem dX13_happens_83 : decode cX13_happens 83 = .ok (.getfield 7, 3) := by decide +kernel
theorem dX13_happens_86 : decode cX13_happens 86 = .ok (.iconst 0, 1) := by decide +kernel
theorem dX13_happens_87 : decode cX13_happens 87 = .ok (.iaload, 1) := by decide +kernel
theorem dX13_happens_88 : decode cX13_happens 88 = .ok (.irem, 1) := by decide +kernel
theorem dX13_happens_89 : decode cX13_happens 89 = .ok (.iconst 1, 1) := by decide +kernel
theorem dX13_happens_90 : decode cX13_happens 90 = .ok (.iload_n 1, 1) := by decide +kernel
theorem dX13_happens_91 : decode cX13_happens 91 = .ok (.bipush 30, 2) := by decide +kernel
theorem dX13_happens_93 : decode cX13_happens 93 = .ok (.irem, 1) := by decide +kernel
theorem dX13_happens_94 : decode cX13_happens 94 = .ok (.iadd, 1) := by decide +kernel
theorem dX13_happens_95 : decode cX13_happens 95 = .ok (.invokevirtual 352, 3) := by decide +kernel
theorem dX13_happens_98 : decode cX13_happens 98 = .ok (.return_, 1) := by decide +kernel
theorem dX13_happens_99 : decode cX13_happens 99 = .ok (.aload_n 0, 1) := by decide +kernel
theorem dX13_happens_100 : decode cX13_happens 100 = .ok (.getfield 7, 3) := by decide +kernel
theorem dX13_happens_103 : decode cX13_happens 103 = .ok (.bipush 9, 2) := by decide +kernel
theorem dX13_happens_105 : decode cX13_happens 105 = .ok (.iaload, 1) := by decide +kernel
theorem dX13_happens_106 : decode cX13_happens 106 = .ok (.ifCond .ne 4, 3) := by decide +kernel
theorem dX13_happens_109 : decode cX13_happens 109 = .ok (.return_, 1) := by decide +kernel
theorem dX13_happens_110 : decode cX13_happens 110 = .ok (.iload_n 1, 1) := by decide +kernel
theorem dX13_happens_111 : decode cX13_happens 111 = .ok (.aload_n 0, 1) := by decide +kernel
theorem dX13_happens_112 : decode cX13_happens 112 = .ok (.getfield 7, 3) := by decide +kernel
theorem dX13_happens_115 : decode cX13_happens 115 = .ok (.bipush 9, 2) := by decide +kernel
theorem dX13_happens_117 : decode cX13_happens 117 = .ok (.iaload, 1) := by decide +kernel
theorem dX13_happens_118 : decode cX13_happens 118 = .ok (.irem, 1) := by decide +kernel
theorem dX13_happens_119 : decode cX13_happens 119 = .ok (.istore_n 2, 1) := by decide +kernel
theorem dX13_happens_120 : decode cX13_happens 120 = .ok (.iload_n 1, 1) := by decide +kernel
theorem dX13_happens_121 : decode cX13_happens 121 = .ok (.bipush 6, 2) := by decide +kernel
theorem dX13_happens_123 : decode cX13_happens 123 = .ok (.irem, 1) := by decide +kernel
theorem dX13_happens_124 : decode cX13_happens 124 = .ok (.iconst 2, 1) := by decide +kernel
theorem dX13_happens_125 : decode cX13_happens 125 = .ok (.if_icmp .ne 41, 3) := by decide +kernel
theorem dX13_happens_128 : decode cX13_happens 128 = .ok (.aload_n 0, 1) := by decide +kernel
theorem dX13_happens_129 : decode cX13_happens 129 = .ok (.iload_n 2, 1) := by decide +kernel
theorem dX13_happens_130 : decode cX13_happens 130 = .ok (.iload_n 1, 1) := by decide +kernel
theorem dX13_happens_131 : decode cX13_happens 131 = .ok (.bipush 6, 2) := by decide +kernel
theorem dX13_happens_133 : decode cX13_happens 133 = .ok (.idiv, 1) := by decide +kernel
theorem dX13_happens_134 : decode cX13_happens 134 = .ok (.aload_n 0, 1) := by decide +kernel
theorem dX13_happens_135 : decode cX13_happens 135 = .ok (.getfield 7, 3) := by decide +kernel
theorem dX13_happens_138 : decode cX13_happens 138 = .ok (.iconst 0, 1) := by decide +kernel
theorem dX13_happens_139 : decode cX13_happens 139 = .ok (.iaload, 1) := by decide +kernel
theorem dX13_happens_140 : decode cX13_happens 140 = .ok (.irem, 1) := by decide +kernel
theorem dX13_happens_141 : decode cX13_happens 141 = .ok (.invokevirtual 355, 3) := by decide +kernel
theorem dX13_happens_144 : decode cX13_happens 144 = .ok (.ifCond .eq 35, 3) := by decide +kernel
theorem dX13_happens_147 : decode cX13_happens 147 = .ok (.aload_n 0, 1) := by decide +kernel
theorem dX13_happens_148 : decode cX13_happens 148 = .ok (.iload_n 2, 1) := by decide +kernel
theorem dX13_happens_149 : decode cX13_happens 149 = .ok (.iload_n 1, 1) := by decide +kernel
theorem dX13_happens_150 : decode cX13_happens 150 = .ok (.bipush 6, 2) := by decide +kernel
theorem dX13_happens_152 : decode cX13_happens 152 = .ok (.idiv, 1) := by decide +kernel
theorem dX13_happens_153 : decode cX13_happens 153 = .ok (.aload_n 0, 1) := by decide +kernel
theorem dX13_happens_154 : decode cX13_happens 154 = .ok (.getfield 7, 3) := by decide +kernel
theorem dX13_happens_157 : decode cX13_happens 157 = .ok (.iconst 0, 1) := by decide +kernel
theorem dX13_happens_158 : decode cX13_happens 158 = .ok (.iaload, 1) := by decide +kernel
theorem dX13_happens_159 : decode cX13_happens 159 = .ok (.irem, 1) := by decide +kernel
theorem dX13_happens_160 : decode cX13_happens 160 = .ok (.invokevirtual 358, 3) := by decide +kernel
theorem dX13_happens_163 : decode cX13_happens 163 = .ok (.goto 16, 3) := by decide +kernel
theorem dX13_happens_166 : decode cX13_happens 166 = .ok (.aload_n 0, 1) := by decide +kernel
theorem dX13_happens_167 : decode cX13_happens 167 = .ok (.iload_n 2, 1) := by decide +kernel
theorem dX13_happens_168 : decode cX13_happens 168 = .ok (.invokevirtual 361, 3) := by decide +kernel
theorem dX13_happens_171 : decode cX13_happens 171 = .ok (.ifCond .eq 8, 3) := by decide +kernel
theorem dX13_happens_174 : decode cX13_happens 174 = .ok (.aload_n 0, 1) := by decide +kernel
theorem dX13_happens_175 : decode cX13_happens 175 = .ok (.iload_n 2, 1) := by decide +kernel
theorem dX13_happens_176 : decode cX13_happens 176 = .ok (.invokevirtual 364, 3) := by decide +kernel
theorem dX13_happens_179 : decode cX13_happens 179 = .ok (.return_, 1) := by decide +kernel
theorem BX13_happens_0 {d bc bs : Nat} {h : aH} {n : Nat} {Q : aQ} {r0 : Option Nat} {x1 : Int} {l2 : Option aV} (b1 : 0 ≤ x1) (kt : (x1 % 6) ≤ 3 → Rn d bc bs mX13_happens 26 [some (vR r0), some (vI x1), l2] [] h n Q) (kf : 3 < (x1 % 6) → Rn d bc bs mX13_happens 8 [some (vR r0), some (vI x1), l2] [] h n Q) : Rn d (bc) (bs) mX13_happens 0 [some (vR r0), some (vI x1), l2] [] h n Q := by
  refine Rn_iload_n dX13_happens_0 rfl rfl ?_
  refine Rn_bipush dX13_happens_1 rfl ?_
  refine Rn_irem dX13_happens_3 (by decide) ?_
  rw [Int.tmod_eq_emod_of_nonneg b1]
  refine Rn_iconst dX13_happens_4 rfl ?_
  refine Rn_icmple (tgt := 26) dX13_happens_5 rfl ?_ ?_
  · exact kt
  · exact kf
theorem BX13_happens_8 {d bc bs : Nat} {h : aH} {n : Nat} {Q : aQ} {ar0 at3 : Nat} {x1 v7 : Int} {l2 : Option aV} {f1 : List aV} {w5 : List Int} (h2 : h ar0 = cO 13 f1) (g4 : f1[0]? = some (vR (some at3))) (h6 : h at3 = cI w5) (g8 : w5[(7 : Int).toNat]? = some v7) (kt : 9999 ≤ v7 → Rn d bc bs mX13_happens 25 [some (vR (some ar0)), some (vI x1), l2] [] h n Q) (kf : v7 < 9999 → Rn d bc bs mX13_happens 21 [some (vR (some ar0)), some (vI x1), l2] [] h n Q) : Rn d (bc) (bs) mX13_happens 8 [some (vR (some ar0)), some (vI x1), l2] [] h n Q := by
  refine Rn_aload_n dX13_happens_8 rfl rfl rfl ?_
  refine Rn_getfield (ci := 13) (k := 0) dX13_happens_9 rfl in_13 (Nat.le_of_ble_eq_true rfl) wd_1352 rfl h2 g4 ?_
  refine Rn_bipush dX13_happens_12 rfl ?_
  refine Rn_iaload dX13_happens_14 h6 (by decide) g8 ?_
  refine Rn_sipush dX13_happens_15 rfl ?_
  refine Rn_icmpge (tgt := 25) dX13_happens_18 rfl ?_ ?_
  · exact kt
  · exact kf
theorem BX13_happens_21 {d bc bs : Nat} {h : aH} {n : Nat} {Q : aQ} {ar0 : Nat} {x1 : Int} {l2 : Option aV} {f1 : List aV} (h2 : h ar0 = cO 13 f1) (k : Rn d 0 0 mX13_pass 0 [some (vR (some ar0)), none] [] h n (fun v h1 n1 => Rn (d + 1) bc bs mX13_happens 25 [some (vR (some ar0)), some (vI x1), l2] (v.toList ++ []) h1 n1 Q)) : Rn (d + 1) (bc) (bs) mX13_happens 21 [some (vR (some ar0)), some (vI x1), l2] [] h n Q := by
  refine Rn_aload_n dX13_happens_21 rfl rfl rfl ?_
  exact Rn_callV (ci := 13) (avs := []) (st := []) (bc1 := 0) (bs1 := 0) (bc2 := bc) (bs2 := bs) fx_X13_pass dX13_happens_22 wd_1714 wd_1716 wd_88 rfl h2 rfl (Nat.le_of_ble_eq_true rfl) (Nat.le_of_ble_eq_true rfl) (by omega) (by omega) (ls1 := [some (vR (some ar0)), none]) rfl k
theorem BX13_happens_25 {d bc bs : Nat} {h : aH} {n : Nat} {Q : aQ} {r0 : Option Nat} {x1 : Int} {l2 : Option aV} (k : Q none h n) : Rn d (bc) (bs) mX13_happens 25 [some (vR r0), some (vI x1), l2] [] h n Q := by
  exact Rn_return rfl dX13_happens_25 k
theorem BX13_happens_26 {d bc bs : Nat} {h : aH} {n : Nat} {Q : aQ} {r0 : Option Nat} {x1 : Int} {l2 : Option aV} (b1 : 0 ≤ x1) (kt : 2 ≤ (x1 % 6) → Rn d bc bs mX13_happens 99 [some (vR r0), some (vI x1), l2] [] h n Q) (kf : (x1 % 6) < 2 → Rn d bc bs mX13_happens 34 [some (vR r0), some (vI x1), l2] [] h n Q) : Rn d (bc) (bs) mX13_happens 26 [some (vR r0), some (vI x1), l2] [] h n Q := by
  refine Rn_iload_n dX13_happens_26 rfl rfl ?_
  refine Rn_bipush dX13_happens_27 rfl ?_
  refine Rn_irem dX13_happens_29 (by decide) ?_
  rw [Int.tmod_eq_emod_of_nonneg b1]
  refine Rn_iconst dX13_happens_30 rfl ?_
  refine Rn_icmpge (tgt := 99) dX13_happens_31 rfl ?_ ?_
  · exact kt
  · exact kf
theorem BX13_happens_34 {d bc bs : Nat} {h : aH} {n : Nat} {Q : aQ} {ar0 at3 : Nat} {x1 v7 : Int} {l2 : Option aV} {f1 : List aV} {w5 : List Int} (h2 : h ar0 = cO 13 f1) (g4 : f1[0]? = some (vR (some at3))) (h6 : h at3 = cI w5) (g8 : w5[(0 : Int).toNat]? = some v7) (kt : v7 ≤ 0 → Rn d bc bs mX13_happens 98 [some (vR (some ar0)), some (vI x1), l2] [] h n Q) (kf : 0 < v7 → Rn d bc bs mX13_happens 43 [some (vR (some ar0)), some (vI x1), l2] [] h n Q) : Rn d (bc) (bs) mX13_happens 34 [some (vR (some ar0)), some (vI x1), l2] [] h n Q := by
  refine Rn_aload_n dX13_happens_34 rfl rfl rfl ?_
  refine Rn_getfield (ci := 13) (k := 0) dX13_happens_35 rfl in_13 (Nat.le_of_ble_eq_true rfl) wd_1352 rfl h2 g4 ?_
  refine Rn_iconst dX13_happens_38 rfl ?_
  refine Rn_iaload dX13_happens_39 h6 (by decide) g8 ?_
  refine Rn_ifle (tgt := 98) dX13_happens_40 rfl ?_ ?_
  · exact kt
  · exact kf
theorem BX13_happens_43 {d bc bs : Nat} {h : aH} {n : Nat} {Q : aQ} {ar0 at3 : Nat} {x1 v7 : Int} {l2 : Option aV} {f1 : List aV} {w5 : List Int} (h2 : h ar0 = cO 13 f1) (g4 : f1[0]? = some (vR (some at3))) (h6 : h at3 = cI w5) (g8 : w5[(0 : Int).toNat]? = some v7) (e9 : ¬ v7 = 0) (b10 : 0 ≤ x1) (b11 : -2147483648 ≤ x1 / 6 ∧ x1 / 6 < 2147483648) (k : Rn d 0 0 mX13_canToss 0 [some (vR (some ar0)), some (vI (Int.tmod x1 v7)), some (vI (Int.tmod (x1 / 6) v7))] [] h n (fun v h1 n1 => Rn (d + 1) bc bs mX13_happens 66 [some (vR (some ar0)), some (vI x1), l2] (v.toList ++ []) h1 n1 Q)) : Rn (d + 1) (bc) (bs) mX13_happens 43 [some (vR (some ar0)), some (vI x1), l2] [] h n Q := by
  refine Rn_aload_n dX13_happens_43 rfl rfl rfl ?_
  refine Rn_iload_n dX13_happens_44 rfl rfl ?_
  refine Rn_aload_n dX13_happens_45 rfl rfl rfl ?_
  refine Rn_getfield (ci := 13) (k := 0) dX13_happens_46 rfl in_13 (Nat.le_of_ble_eq_true rfl) wd_1352 rfl h2 g4 ?_
  refine Rn_iconst dX13_happens_49 rfl ?_
  refine Rn_iaload dX13_happens_50 h6 (by decide) g8 ?_
  refine Rn_irem dX13_happens_51 e9 ?_
  refine Rn_iload_n dX13_happens_52 rfl rfl ?_
  refine Rn_bipush dX13_happens_53 rfl ?_
  refine Rn_idiv dX13_happens_55 (by decide) ?_
  rw [Int.tdiv_eq_ediv_of_nonneg (b := 6) b10]
  rw [w32_id b11.1 b11.2]
  refine Rn_aload_n dX13_happens_56 rfl rfl rfl ?_
  refine Rn_getfield (ci := 13) (k := 0) dX13_happens_57 rfl in_13 (Nat.le_of_ble_eq_true rfl) wd_1352 rfl h2 g4 ?_
  refine Rn_iconst dX13_happens_60 rfl ?_
  refine Rn_iaload dX13_happens_61 h6 (by decide) g8 ?_
  refine Rn_irem dX13_happens_62 e9 ?_
  exact Rn_callV (ci := 13) (avs := [vI (Int.tmod x1 v7), vI (Int.tmod (x1 / 6) v7)]) (st := []) (bc1 := 0) (bs1 := 0) (bc2 := bc) (bs2 := bs) fx_X13_canToss dX13_happens_63 wd_1642 wd_1644 wd_73 rfl h2 rfl (Nat.le_of_ble_eq_true rfl) (Nat.le_of_ble_eq_true rfl) (by omega) (by omega) (ls1 := [some (vR (some ar0)), some (vI (Int.tmod x1 v7)), some (vI (Int.tmod (x1 / 6) v7))]) rfl k
theorem BX13_happens_66 {d bc bs : Nat} {h : aH} {n : Nat} {Q : aQ} {r0 : Option Nat} {x1 s0 : Int} {l2 : Option aV} (kt : s0 = 0 → Rn d bc bs mX13_happens 98 [some (vR r0), some (vI x1), l2] [] h n Q) (kf : s0 ≠ 0 → Rn d bc bs mX13_happens 69 [some (vR r0), some (vI x1), l2] [] h n Q) : Rn d (bc) (bs) mX13_happens 66 [some (vR r0), some (vI x1), l2] [vI s0] h n Q := by
  refine Rn_ifeq (tgt := 98) dX13_happens_66 rfl ?_ ?_
  · exact kt
  · exact kf
theorem BX13_happens_69 {d bc bs : Nat} {h : aH} {n : Nat} {Q : aQ} {ar0 at3 : Nat} {x1 v7 : Int} {l2 : Option aV} {f1 : List aV} {w5 : List Int} (h2 : h ar0 = cO 13 f1) (g4 : f1[0]? = some (vR (some at3))) (h6 : h at3 = cI w5) (g8 : w5[(0 : Int).toNat]? = some v7) (e9 : ¬ v7 = 0) (b10 : 0 ≤ x1) (b11 : -2147483648 ≤ x1 / 6 ∧ x1 / 6 < 2147483648) (b12 : -2147483648 ≤ 1 + (x1 % 30) ∧ 1 + (x1 % 30) < 2147483648) (k : Rn d 0 0 mX13_tossNow 0 [some (vR (some ar0)), some (vI (Int.tmod x1 v7)), some (vI (Int.tmod (x1 / 6) v7)), some (vI (1 + (x1 % 30))), none] [] h n (fun v h1 n1 => Rn (d + 1) bc bs mX13_happens 98 [some (vR (some ar0)), some (vI x1), l2] (v.toList ++ []) h1 n1 Q)) : Rn (d + 1) (bc) (bs) mX13_happens 69 [some (vR (some ar0)), some (vI x1), l2] [] h n Q := by
  refine Rn_aload_n dX13_happens_69 rfl rfl rfl ?_
  refine Rn_iload_n dX13_happens_70 rfl rfl ?_
  refine Rn_aload_n dX13_happens_71 rfl rfl rfl ?_
  refine Rn_getfield (ci := 13) (k := 0) dX13_happens_72 rfl in_13 (Nat.le_of_ble_eq_true rfl) wd_1352 rfl h2 g4 ?_
  refine Rn_iconst dX13_happens_75 rfl ?_
  refine Rn_iaload dX13_happens_76 h6 (by decide) g8 ?_
  refine Rn_irem dX13_happens_77 e9 ?_
  refine Rn_iload_n dX13_happens_78 rfl rfl ?_
  refine Rn_bipush dX13_happens_79 rfl ?_
  refine Rn_idiv dX13_happens_81 (by decide) ?_
  rw [Int.tdiv_eq_ediv_of_nonneg (b := 6) b10]
  rw [w32_id b11.1 b11.2]
  refine Rn_aload_n dX13_happens_82 rfl rfl rfl ?_
  refine Rn_getfield (ci := 13) (k := 0) dX13_happens_83 rfl in_13 (Nat.le_of_ble_eq_true rfl) wd_1352 rfl h2 g4 ?_
  refine Rn_iconst dX13_happens_86 rfl ?_
  refine Rn_iaload dX13_happens_87 h6 (by decide) g8 ?_
  refine Rn_irem dX13_happens_88 e9 ?_
  refine Rn_iconst dX13_happens_89 rfl ?_
  refine Rn_iload_n dX13_happens_90 rfl rfl ?_
  refine Rn_bipush dX13_happens_91 rfl ?_
  refine Rn_irem dX13_happens_93 (by decide) ?_
  rw [Int.tmod_eq_emod_of_nonneg (b := 30) b10]
  refine Rn_iadd dX13_happens_94 ?_
  rw [w32_id b12.1 b12.2]
  exact Rn_callV (ci := 13) (avs := [vI (Int.tmod x1 v7), vI (Int.tmod (x1 / 6) v7), vI (1 + (x1 % 30))]) (st := []) (bc1 := 0) (bs1 := 0) (bc2 := bc) (bs2 := bs) fx_X13_tossNow dX13_happens_95 wd_1654 wd_1656 wd_76 rfl h2 rfl (Nat.le_of_ble_eq_true rfl) (Nat.le_of_ble_eq_true rfl) (by omega) (by omega) (ls1 := [some (vR (some ar0)), some (vI (Int.tmod x1 v7)), some (vI (Int.tmod (x1 / 6) v7)), some (vI (1 + (x1 % 30))), none]) rfl k
theorem BX13_happens_98 {d bc bs : Nat} {h : aH} {n : Nat} {Q : aQ} {r0 : Option Nat} {x1 : Int} {l2 : Option aV} (k : Q none h n) : Rn d (bc) (bs) mX13_happens 98 [some (vR r0), some (vI x1), l2] [] h n Q := by
  exact Rn_return rfl dX13_happens_98 k
theorem BX13_happens_99 {d bc bs : Nat} {h : aH} {n : Nat} {Q : aQ} {ar0 at3 : Nat} {x1 v7 : Int} {l2 : Option aV} {f1 : List aV} {w5 : List Int} (h2 : h ar0 = cO 13 f1) (g4 : f1[0]? = some (vR (some at3))) (h6 : h at3 = cI w5) (g8 : w5[(9 : Int).toNat]? = some v7) (kt : v7 ≠ 0 → Rn d bc bs mX13_happens 110 [some (vR (some ar0)), some (vI x1), l2] [] h n Q) (kf : v7 = 0 → Rn d bc bs mX13_happens 109 [some (vR (some ar0)), some (vI x1), l2] [] h n Q) : Rn d (bc) (bs) mX13_happens 99 [some (vR (some ar0)), some (vI x1), l2] [] h n Q := by
  refine Rn_aload_n dX13_happens_99 rfl rfl rfl ?_
  refine Rn_getfield (ci := 13) (k := 0) dX13_happens_100 rfl in_13 (Nat.le_of_ble_eq_true rfl) wd_1352 rfl h2 g4 ?_
  refine Rn_bipush dX13_happens_103 rfl ?_
  refine Rn_iaload dX13_happens_105 h6 (by decide) g8 ?_
  refine Rn_ifne (tgt := 110) dX13_happens_106 rfl ?_ ?_
  · exact kt
  · exact kf
theorem BX13_happens_109 {d bc bs : Nat} {h : aH} {n : Nat} {Q : aQ} {r0 : Option Nat} {x1 : Int} {l2 : Option aV} (k : Q none h n) : Rn d (bc) (bs) mX13_happens 109 [some (vR r0), some (vI x1), l2] [] h n Q := by
  exact Rn_return rfl dX13_happens_109 k
theorem BX13_happens_110 {d bc bs : Nat} {h : aH} {n : Nat} {Q : aQ} {ar0 at3 : Nat} {x1 v7 : Int} {l2 : Option aV} {f1 : List aV} {w5 : List Int} (h2 : h ar0 = cO 13 f1) (g4 : f1[0]? = some (vR (some at3))) (h6 : h at3 = cI w5) (g8 : w5[(9 : Int).toNat]? = some v7) (e9 : ¬ v7 = 0) (b10 : 0 ≤ x1) (kt : (x1 % 6) ≠ 2 → Rn d bc bs mX13_happens 166 [some (vR (some ar0)), some (vI x1), some (vI (Int.tmod x1 v7))] [] h n Q) (kf : (x1 % 6) = 2 → Rn d bc bs mX13_happens 128 [some (vR (some ar0)), some (vI x1), some (vI (Int.tmod x1 v7))] [] h n Q) : Rn d (bc) (bs) mX13_happens 110 [some (vR (some ar0)), some (vI x1), l2] [] h n Q := by
  refine Rn_iload_n dX13_happens_110 rfl rfl ?_
  refine Rn_aload_n dX13_happens_111 rfl rfl rfl ?_
  refine Rn_getfield (ci := 13) (k := 0) dX13_happens_112 rfl in_13 (Nat.le_of_ble_eq_true rfl) wd_1352 rfl h2 g4 ?_
  refine Rn_bipush dX13_happens_115 rfl ?_
  refine Rn_iaload dX13_happens_117 h6 (by decide) g8 ?_
  refine Rn_irem dX13_happens_118 e9 ?_
  refine Rn_istore_n dX13_happens_119 rfl (Nat.le_of_ble_eq_true rfl) rfl rfl ?_
  refine Rn_iload_n dX13_happens_120 rfl rfl ?_
  refine Rn_bipush dX13_happens_121 rfl ?_
  refine Rn_irem dX13_happens_123 (by decide) ?_
  rw [Int.tmod_eq_emod_of_nonneg (b := 6) b10]
  refine Rn_iconst dX13_happens_124 rfl ?_
  refine Rn_icmpne (tgt := 166) dX13_happens_125 rfl ?_ ?_
  · exact kt
  · exact kf
theorem BX13_happens_128 {d bc bs : Nat} {h : aH} {n : Nat} {Q : aQ} {ar0 at5 : Nat} {x1 x2 v9 : Int} {f3 : List aV} {w7 : List Int} (b1 : 0 ≤ x1) (b2 : -2147483648 ≤ x1 / 6 ∧ x1 / 6 < 2147483648) (h4 : h ar0 = cO 13 f3) (g6 : f3[0]? = some (vR (some at5))) (h8 : h at5 = cI w7) (g10 : w7[(0 : Int).toNat]? = some v9) (e11 : ¬ v9 = 0) (k : Rn d 0 0 mX13_canFish 0 [some (vR (some ar0)), some (vI x2), some (vI (Int.tmod (x1 / 6) v9))] [] h n (fun v h1 n1 => Rn (d + 1) bc bs mX13_happens 144 [some (vR (some ar0)), some (vI x1), some (vI x2)] (v.toList ++ []) h1 n1 Q)) : Rn (d + 1) (bc) (bs) mX13_happens 128 [some (vR (some ar0)), some (vI x1), some (vI x2)] [] h n Q := by
  refine Rn_aload_n dX13_happens_128 rfl rfl rfl ?_
  refine Rn_iload_n dX13_happens_129 rfl rfl ?_
  refine Rn_iload_n dX13_happens_130 rfl rfl ?_
  refine Rn_bipush dX13_happens_131 rfl ?_
  refine Rn_idiv dX13_happens_133 (by decide) ?_
  rw [Int.tdiv_eq_ediv_of_nonneg b1]
  rw [w32_id b2.1 b2.2]
  refine Rn_aload_n dX13_happens_134 rfl rfl rfl ?_
  refine Rn_getfield (ci := 13) (k := 0) dX13_happens_135 rfl in_13 (Nat.le_of_ble_eq_true rfl) wd_1352 rfl h4 g6 ?_
  refine Rn_iconst dX13_happens_138 rfl ?_
  refine Rn_iaload dX13_happens_139 h8 (by decide) g10 ?_
  refine Rn_irem dX13_happens_140 e11 ?_
  exact Rn_callV (ci := 13) (avs := [vI x2, vI (Int.tmod (x1 / 6) v9)]) (st := []) (bc1 := 0) (bs1 := 0) (bc2 := bc) (bs2 := bs) fx_X13_canFish dX13_happens_141 wd_1670 wd_1672 wd_79 rfl h4 rfl (Nat.le_of_ble_eq_true rfl) (Nat.le_of_ble_eq_true rfl) (by omega) (by omega) (ls1 := [some (vR (some ar0)), some (vI x2), some (vI (Int.tmod (x1 / 6) v9))]) rfl k
theorem BX13_happens_144 {d bc bs : Nat} {h : aH} {n : Nat} {Q : aQ} {r0 : Option Nat} {x1 x2 s0 : Int} (kt : s0 = 0 → Rn d bc bs mX13_happens 179 [some (vR r0), some (vI x1), some (vI x2)] [] h n Q) (kf : s0 ≠ 0 → Rn d bc bs mX13_happens 147 [some (vR r0), some (vI x1), some (vI x2)] [] h n Q) : Rn d (bc) (bs) mX13_happens 144 [some (vR r0), some (vI x1), some (vI x2)] [vI s0] h n Q := by
  refine Rn_ifeq (tgt := 179) dX13_happens_144 rfl ?_ ?_
  · exact kt
  · exact kf
theorem BX13_happens_147 {d bc bs : Nat} {h : aH} {n : Nat} {Q : aQ} {ar0 at5 : Nat} {x1 x2 v9 : Int} {f3 : List aV} {w7 : List Int} (b1 : 0 ≤ x1) (b2 : -2147483648 ≤ x1 / 6 ∧ x1 / 6 < 2147483648) (h4 : h ar0 = cO 13 f3) (g6 : f3[0]? = some (vR (some at5))) (h8 : h at5 = cI w7) (g10 : w7[(0 : Int).toNat]? = some v9) (e11 : ¬ v9 = 0) (k : Rn d 0 0 mX13_fishNow 0 [some (vR (some ar0)), some (vI x2), some (vI (Int.tmod (x1 / 6) v9))] [] h n (fun v h1 n1 => Rn (d + 1) bc bs mX13_happens 163 [some (vR (some ar0)), some (vI x1), some (vI x2)] (v.toList ++ []) h1 n1 Q)) : Rn (d + 1) (bc) (bs) mX13_happens 147 [some (vR (some ar0)), some (vI x1), some (vI x2)] [] h n Q := by
  refine Rn_aload_n dX13_happens_147 rfl rfl rfl ?_
  refine Rn_iload_n dX13_happens_148 rfl rfl ?_
  refine Rn_iload_n dX13_happens_149 rfl rfl ?_
  refine Rn_bipush dX13_happens_150 rfl ?_
  refine Rn_idiv dX13_happens_152 (by decide) ?_
  rw [Int.tdiv_eq_ediv_of_nonneg b1]
  rw [w32_id b2.1 b2.2]
  refine Rn_aload_n dX13_happens_153 rfl rfl rfl ?_
  refine Rn_getfield (ci := 13) (k := 0) dX13_happens_154 rfl in_13 (Nat.le_of_ble_eq_true rfl) wd_1352 rfl h4 g6 ?_
  refine Rn_iconst dX13_happens_157 rfl ?_
  refine Rn_iaload dX13_happens_158 h8 (by decide) g10 ?_
  refine Rn_irem dX13_happens_159 e11 ?_
  exact Rn_callV (ci := 13) (avs := [vI x2, vI (Int.tmod (x1 / 6) v9)]) (st := []) (bc1 := 0) (bs1 := 0) (bc2 := bc) (bs2 := bs) fx_X13_fishNow dX13_happens_160 wd_1686 wd_1688 wd_83 rfl h4 rfl (Nat.le_of_ble_eq_true rfl) (Nat.le_of_ble_eq_true rfl) (by omega) (by omega) (ls1 := [some (vR (some ar0)), some (vI x2), some (vI (Int.tmod (x1 / 6) v9))]) rfl k
theorem BX13_happens_163 {d bc bs : Nat} {h : aH} {n : Nat} {Q : aQ} {r0 : Option Nat} {x1 x2 : Int} (k : Q none h n) : Rn d (bc) (bs) mX13_happens 163 [some (vR r0), some (vI x1), some (vI x2)] [] h n Q := by
  refine Rn_goto (tgt := 179) dX13_happens_163 rfl ?_
  exact Rn_return rfl dX13_happens_179 k
theorem BX13_happens_166 {d bc bs : Nat} {h : aH} {n : Nat} {Q : aQ} {ar0 : Nat} {x1 x2 : Int} {f1 : List aV} (h2 : h ar0 = cO 13 f1) (k : Rn d 0 0 mX13_canAgain 0 [some (vR (some ar0)), some (vI x2)] [] h n (fun v h1 n1 => Rn (d + 1) bc bs mX13_happens 171 [some (vR (some ar0)), some (vI x1), some (vI x2)] (v.toList ++ []) h1 n1 Q)) : Rn (d + 1) (bc) (bs) mX13_happens 166 [some (vR (some ar0)), some (vI x1), some (vI x2)] [] h n Q := by
  refine Rn_aload_n dX13_happens_166 rfl rfl rfl ?_
  refine Rn_iload_n dX13_happens_167 rfl rfl ?_
  exact Rn_callV (ci := 13) (avs := [vI x2]) (st := []) (bc1 := 0) (bs1 := 0) (bc2 := bc) (bs2 := bs) fx_X13_canAgain dX13_happens_168 wd_1698 wd_1700 wd_85 rfl h2 rfl (Nat.le_of_ble_eq_true rfl) (Nat.le_of_ble_eq_true rfl) (by omega) (by omega) (ls1 := [some (vR (some ar0)), some (vI x2)]) rfl k
theorem BX13_happens_171 {d bc bs : Nat} {h : aH} {n : Nat} {Q : aQ} {r0 : Option Nat} {x1 x2 s0 : Int} (kt : s0 = 0 → Rn d bc bs mX13_happens 179 [some (vR r0), some (vI x1), some (vI x2)] [] h n Q) (kf : s0 ≠ 0 → Rn d bc bs mX13_happens 174 [some (vR r0), some (vI x1), some (vI x2)] [] h n Q) : Rn d (bc) (bs) mX13_happens 171 [some (vR r0), some (vI x1), some (vI x2)] [vI s0] h n Q := by
  refine Rn_ifeq (tgt := 179) dX13_happens_171 rfl ?_ ?_
  · exact kt
  · exact kf
theorem BX13_happens_174 {d bc bs : Nat} {h : aH} {n : Nat} {Q : aQ} {ar0 : Nat} {x1 x2 : Int} {f1 : List aV} (h2 : h ar0 = cO 13 f1) (k : Rn d 0 0 mX13_againNow 0 [some (vR (some ar0)), some (vI x2)] [] h n (fun v h1 n1 => Rn (d + 1) bc bs mX13_happens 179 [some (vR (some ar0)), some (vI x1), some (vI x2)] (v.toList ++ []) h1 n1 Q)) : Rn (d + 1) (bc) (bs) mX13_happens 174 [some (vR (some ar0)), some (vI x1), some (vI x2)] [] h n Q := by
  refine Rn_aload_n dX13_happens_174 rfl rfl rfl ?_
  refine Rn_iload_n dX13_happens_175 rfl rfl ?_
  exact Rn_callV (ci := 13) (avs := [vI x2]) (st := []) (bc1 := 0) (bs1 := 0) (bc2 := bc) (bs2 := bs) fx_X13_againNow dX13_happens_176 wd_1702 wd_1704 wd_86 rfl h2 rfl (Nat.le_of_ble_eq_true rfl) (Nat.le_of_ble_eq_true rfl) (by omega) (by omega) (ls1 := [some (vR (some ar0)), some (vI x2)]) rfl k
theorem BX13_happens_179 {d bc bs : Nat} {h : aH} {n : Nat} {Q : aQ} {r0 : Option Nat} {x1 x2 : Int} (k : Q none h n) : Rn d (bc) (bs) mX13_happens 179 [some (vR r0), some (vI x1), some (vI x2)] [] h n Q := by
  exact Rn_return rfl dX13_happens_179 k
theorem dX13_years_0 : decode cX13_years 0 = .ok (.iload_n 1, 1) := by decide +kernel
theorem dX13_years_1 : decode cX13_years 1 = .ok (.iconst 0, 1) := by decide +kernel
theorem dX13_years_2 : decode cX13_years 2 = .ok (.sipush 9999, 3) := by decide +kernel
theorem dX13_years_5 : decode cX13_years 5 = .ok (.invokestatic 72, 3) := by decide +kernel
theorem dX13_years_8 : decode cX13_years 8 = .ok (.ifCond .eq 13, 3) := by decide +kernel
theorem dX13_years_11 : decode cX13_years 11 = .ok (.iload_n 2, 1) := by decide +kernel
theorem dX13_years_12 : decode cX13_years 12 = .ok (.iconst 1, 1) := by decide +kernel
theorem dX13_years_13 : decode cX13_years 13 = .ok (.bipush 40, 2) := by decide +kernel
theorem dX13_years_15 : decode cX13_years 15 = .ok (.invokestatic 72, 3) := by decide +kernel
theorem dX13_years_18 : decode cX13_years 18 = .ok (.ifCond .ne 5, 3) := by decide +kernel
theorem dX13_years_21 : decode cX13_years 21 = .ok (.iconst (-1), 1) := by decide +kernel
theorem dX13_years_22 : decode cX13_years 22 = .ok (.ireturn, 1) := by decide +kernel
theorem dX13_years_23 : decode cX13_years 23 = .ok (.aload_n 0, 1) := by decide +kernel
theorem dX13_years_24 : decode cX13_years 24 = .ok (.invokevirtual 349, 3) := by decide +kernel
theorem dX13_years_27 : decode cX13_years 27 = .ok (.aload_n 0, 1) := by decide +kernel
theorem dX13_years_28 : decode cX13_years 28 = .ok (.getfield 7, 3) := by decide +kernel
theorem dX13_years_31 : decode cX13_years 31 = .ok (.bipush 8, 2) := by decide +kernel
theorem dX13_years_33 : decode cX13_years 33 = .ok (.iload_n 1, 1) := by decide +kernel
theorem dX13_years_34 : decode cX13_years 34 = .ok (.iconst 2, 1) := by decide +kernel
theorem dX13_years_35 : decode cX13_years 35 = .ok (.imul, 1) := by decide +kernel
theorem dX13_years_36 : decode cX13_years 36 = .ok (.sipush 227, 3) := by decide +kernel
theorem dX13_years_39 : decode cX13_years 39 = .ok (.iadd, 1) := by decide +kernel
theorem dX13_years_40 : decode cX13_years 40 = .ok (.iastore, 1) := by decide +kernel
theorem dX13_years_41 : decode cX13_years 41 = .ok (.iconst 0, 1) := by decide +kernel
theorem dX13_years_42 : decode cX13_years 42 = .ok (.istore_n 3, 1) := by decide +kernel
theorem dX13_years_43 : decode cX13_years 43 = .ok (.iload_n 3, 1) := by decide +kernel
theorem dX13_years_44 : decode cX13_years 44 = .ok (.iload_n 2, 1) := by decide +kernel
theorem dX13_years_45 : decode cX13_years 45 = .ok (.if_icmp .ge 28, 3) := by decide +kernel
theorem dX13_years_48 : decode cX13_years 48 = .ok (.aload_n 0, 1) := by decide +kernel
theorem dX13_years_49 : decode cX13_years 49 = .ok (.getfield 7, 3) := by decide +kernel
theorem dX13_years_52 : decode cX13_years 52 = .ok (.bipush 8, 2) := by decide +kernel
theorem dX13_years_54 : decode cX13_years 54 = .ok (.iaload, 1) := by decide +kernel
theorem dX13_years_55 : decode cX13_years 55 = .ok (.istore 4, 2) := by decide +kernel
theorem dX13_years_57 : decode cX13_years 57 = .ok (.aload_n 0, 1) := by decide +kernel
theorem dX13_years_58 : decode cX13_years 58 = .ok (.invokevirtual 337, 3) := by decide +kernel
theorem dX13_years_61 : decode cX13_years 61 = .ok (.aload_n 0, 1) := by decide +kernel
theorem dX13_years_62 : decode cX13_years 62 = .ok (.iload 4, 2) := by decide +kernel
theorem dX13_years_64 : decode cX13_years 64 = .ok (.invokevirtual 391, 3) := by decide +kernel
theorem dX13_years_67 : decode cX13_years 67 = .ok (.iinc 3 1, 3) := by decide +kernel
theorem dX13_years_70 : decode cX13_years 70 = .ok (.goto (-27), 3) := by decide +kernel
theorem dX13_years_73 : decode cX13_years 73 = .ok (.aload_n 0, 1) := by decide +kernel
theorem dX13_years_74 : decode cX13_years 74 = .ok (.getfield 7, 3) := by decide +kernel
theorem dX13_years_77 : decode cX13_years 77 = .ok (.bipush 7, 2) := by decide +kernel
theorem dX13_years_79 : decode cX13_years 79 = .ok (.iaload, 1) := by decide +kernel
theorem dX13_years_80 : decode cX13_years 80 = .ok (.ireturn, 1) := by decide +kernel
theorem BX13_years_0 {d bc bs : Nat} {h : aH} {n : Nat} {Q : aQ} {r0 : Option Nat} {x1 x2 : Int} {l3 l4 : Option aV} (k : Rn d 0 0 mX13_isIn 0 [some (vI x1), some (vI 0), some (vI 9999)] [] h n (fun v h1 n1 => Rn (d + 1) bc bs mX13_years 8 [some (vR r0), some (vI x1), some (vI x2), l3, l4] (v.toList ++ []) h1 n1 Q)) : Rn (d + 1) (bc) (bs) mX13_years 0 [some (vR r0), some (vI x1), some (vI x2), l3, l4] [] h n Q := by
  refine Rn_iload_n dX13_years_0 rfl rfl ?_
  refine Rn_iconst dX13_years_1 rfl ?_
  refine Rn_sipush dX13_years_2 rfl ?_
  exact Rn_callS (avs := [vI x1, vI 0, vI 9999]) (st := []) (bc1 := 0) (bs1 := 0) (bc2 := bc) (bs2 := bs) fx_X13_isIn dX13_years_5 (Or.inl wd_1463) wd_1464 rfl (Nat.le_of_ble_eq_true rfl) (Nat.le_of_ble_eq_true rfl) (by omega) (by omega) (ls1 := [some (vI x1), some (vI 0), some (vI 9999)]) rfl k
theorem BX13_years_8 {d bc bs : Nat} {h : aH} {n : Nat} {Q : aQ} {r0 : Option Nat} {x1 x2 s0 : Int} {l3 l4 : Option aV} (kt : s0 = 0 → Rn d bc bs mX13_years 21 [some (vR r0), some (vI x1), some (vI x2), l3, l4] [] h n Q) (kf : s0 ≠ 0 → Rn d bc bs mX13_years 11 [some (vR r0), some (vI x1), some (vI x2), l3, l4] [] h n Q) : Rn d (bc) (bs) mX13_years 8 [some (vR r0), some (vI x1), some (vI x2), l3, l4] [vI s0] h n Q := by
  refine Rn_ifeq (tgt := 21) dX13_years_8 rfl ?_ ?_
  · exact kt
  · exact kf
theorem BX13_years_11 {d bc bs : Nat} {h : aH} {n : Nat} {Q : aQ} {r0 : Option Nat} {x1 x2 : Int} {l3 l4 : Option aV} (k : Rn d 0 0 mX13_isIn 0 [some (vI x2), some (vI 1), some (vI 40)] [] h n (fun v h1 n1 => Rn (d + 1) bc bs mX13_years 18 [some (vR r0), some (vI x1), some (vI x2), l3, l4] (v.toList ++ []) h1 n1 Q)) : Rn (d + 1) (bc) (bs) mX13_years 11 [some (vR r0), some (vI x1), some (vI x2), l3, l4] [] h n Q := by
  refine Rn_iload_n dX13_years_11 rfl rfl ?_
  refine Rn_iconst dX13_years_12 rfl ?_
  refine Rn_bipush dX13_years_13 rfl ?_
  exact Rn_callS (avs := [vI x2, vI 1, vI 40]) (st := []) (bc1 := 0) (bs1 := 0) (bc2 := bc) (bs2 := bs) fx_X13_isIn dX13_years_15 (Or.inl wd_1463) wd_1464 rfl (Nat.le_of_ble_eq_true rfl) (Nat.le_of_ble_eq_true rfl) (by omega) (by omega) (ls1 := [some (vI x2), some (vI 1), some (vI 40)]) rfl k
theorem BX13_years_18 {d bc bs : Nat} {h : aH} {n : Nat} {Q : aQ} {r0 : Option Nat} {x1 x2 s0 : Int} {l3 l4 : Option aV} (kt : s0 ≠ 0 → Rn d bc bs mX13_years 23 [some (vR r0), some (vI x1), some (vI x2), l3, l4] [] h n Q) (kf : s0 = 0 → Rn d bc bs mX13_years 21 [some (vR r0), some (vI x1), some (vI x2), l3, l4] [] h n Q) : Rn d (bc) (bs) mX13_years 18 [some (vR r0), some (vI x1), some (vI x2), l3, l4] [vI s0] h n Q := by
  refine Rn_ifne (tgt := 23) dX13_years_18 rfl ?_ ?_
  · exact kt
  · exact kf
theorem BX13_years_21 {d bc bs : Nat} {h : aH} {n : Nat} {Q : aQ} {r0 : Option Nat} {x1 x2 : Int} {l3 l4 : Option aV} (k : Q (some (vI (-1))) h n) : Rn d (bc) (bs) mX13_years 21 [some (vR r0), some (vI x1), some (vI x2), l3, l4] [] h n Q := by
  refine Rn_iconst dX13_years_21 rfl ?_
  exact Rn_ireturn rfl dX13_years_22 k
theorem BX13_years_23 {d bc bs : Nat} {h : aH} {n : Nat} {Q : aQ} {ar0 : Nat} {x1 x2 : Int} {l3 l4 : Option aV} {f1 : List aV} (h2 : h ar0 = cO 13 f1) (k : Rn d 0 0 mX13_keep 0 [some (vR (some ar0)), none, none] [] h n (fun v h1 n1 => Rn (d + 1) bc bs mX13_years 27 [some (vR (some ar0)), some (vI x1), some (vI x2), l3, l4] (v.toList ++ []) h1 n1 Q)) : Rn (d + 1) (bc) (bs) mX13_years 23 [some (vR (some ar0)), some (vI x1), some (vI x2), l3, l4] [] h n Q := by
  refine Rn_aload_n dX13_years_23 rfl rfl rfl ?_
  exact Rn_callV (ci := 13) (avs := []) (st := []) (bc1 := 0) (bs1 := 0) (bc2 := bc) (bs2 := bs) fx_X13_keep dX13_years_24 wd_1650 wd_1652 wd_75 rfl h2 rfl (Nat.le_of_ble_eq_true rfl) (Nat.le_of_ble_eq_true rfl) (by omega) (by omega) (ls1 := [some (vR (some ar0)), none, none]) rfl k
theorem BX13_years_27 {d bc bs : Nat} {h : aH} {n : Nat} {Q : aQ} {ar0 at3 : Nat} {x1 x2 : Int} {l3 l4 : Option aV} {f1 : List aV} {w7 : List Int} (h2 : h ar0 = cO 13 f1) (g4 : f1[0]? = some (vR (some at3))) (b5 : -2147483648 ≤ x1 * 2 ∧ x1 * 2 < 2147483648) (b6 : -2147483648 ≤ (x1 * 2) + 227 ∧ (x1 * 2) + 227 < 2147483648) (h8 : h at3 = cI w7) (j9 : (8 : Int) < w7.length) (z10 : at3 ≠ 0) (k : Rn d bc bs mX13_years 41 [some (vR (some ar0)), some (vI x1), some (vI x2), l3, l4] [] (up h at3 (cI (w7.set (8 : Int).toNat ((x1 * 2) + 227)))) n Q) : Rn d (bc) (bs) mX13_years 27 [some (vR (some ar0)), some (vI x1), some (vI x2), l3, l4] [] h n Q := by
  refine Rn_aload_n dX13_years_27 rfl rfl rfl ?_
  refine Rn_getfield (ci := 13) (k := 0) dX13_years_28 rfl in_13 (Nat.le_of_ble_eq_true rfl) wd_1352 rfl h2 g4 ?_
  refine Rn_bipush dX13_years_31 rfl ?_
  refine Rn_iload_n dX13_years_33 rfl rfl ?_
  refine Rn_iconst dX13_years_34 rfl ?_
  refine Rn_imul dX13_years_35 ?_
  rw [w32_id b5.1 b5.2]
  refine Rn_sipush dX13_years_36 rfl ?_
  refine Rn_iadd dX13_years_39 ?_
  rw [w32_id b6.1 b6.2]
  refine Rn_iastore dX13_years_40 z10 h8 (by decide) j9 ?_
  exact k
theorem BX13_years_41 {d bc bs : Nat} {h : aH} {n : Nat} {Q : aQ} {r0 : Option Nat} {x1 x2 : Int} {l3 l4 : Option aV} (k : Rn d bc bs mX13_years 43 [some (vR r0), some (vI x1), some (vI x2), some (vI 0), l4] [] h n Q) : Rn d (bc) (bs) mX13_years 41 [some (vR r0), some (vI x1), some (vI x2), l3, l4] [] h n Q := by
  refine Rn_iconst dX13_years_41 rfl ?_
  refine Rn_istore_n dX13_years_42 rfl (Nat.le_of_ble_eq_true rfl) rfl rfl ?_
  exact k
theorem BX13_years_43 {d bc bs : Nat} {h : aH} {n : Nat} {Q : aQ} {r0 : Option Nat} {x1 x2 x3 : Int} {l4 : Option aV} (kt : x2 ≤ x3 → Rn d bc bs mX13_years 73 [some (vR r0), some (vI x1), some (vI x2), some (vI x3), l4] [] h n Q) (kf : x3 < x2 → Rn d bc bs mX13_years 48 [some (vR r0), some (vI x1), some (vI x2), some (vI x3), l4] [] h n Q) : Rn d (bc) (bs) mX13_years 43 [some (vR r0), some (vI x1), some (vI x2), some (vI x3), l4] [] h n Q := by
  refine Rn_iload_n dX13_years_43 rfl rfl ?_
  refine Rn_iload_n dX13_years_44 rfl rfl ?_
  refine Rn_icmpge (tgt := 73) dX13_years_45 rfl ?_ ?_
  · exact kt
  · exact kf
theorem BX13_years_48 {d bc bs : Nat} {h : aH} {n : Nat} {Q : aQ} {ar0 at3 : Nat} {x1 x2 x3 v7 : Int} {l4 : Option aV} {f1 : List aV} {w5 : List Int} (h2 : h ar0 = cO 13 f1) (g4 : f1[0]? = some (vR (some at3))) (h6 : h at3 = cI w5) (g8 : w5[(8 : Int).toNat]? = some v7) (k : Rn d 0 0 mX13_anew 0 [some (vR (some ar0))] [] h n (fun v h1 n1 => Rn (d + 1) bc bs mX13_years 61 [some (vR (some ar0)), some (vI x1), some (vI x2), some (vI x3), some (vI v7)] (v.toList ++ []) h1 n1 Q)) : Rn (d + 1) (bc) (bs) mX13_years 48 [some (vR (some ar0)), some (vI x1), some (vI x2), some (vI x3), l4] [] h n Q := by
  refine Rn_aload_n dX13_years_48 rfl rfl rfl ?_
  refine Rn_getfield (ci := 13) (k := 0) dX13_years_49 rfl in_13 (Nat.le_of_ble_eq_true rfl) wd_1352 rfl h2 g4 ?_
  refine Rn_bipush dX13_years_52 rfl ?_
  refine Rn_iaload dX13_years_54 h6 (by decide) g8 ?_
  refine Rn_istore dX13_years_55 (Nat.le_of_ble_eq_true rfl) rfl rfl ?_
  refine Rn_aload_n dX13_years_57 rfl rfl rfl ?_
  exact Rn_callV (ci := 13) (avs := []) (st := []) (bc1 := 0) (bs1 := 0) (bc2 := bc) (bs2 := bs) fx_X13_anew dX13_years_58 wd_1778 wd_1780 wd_99 rfl h2 rfl (Nat.le_of_ble_eq_true rfl) (Nat.le_of_ble_eq_true rfl) (by omega) (by omega) (ls1 := [some (vR (some ar0))]) rfl k
theorem BX13_years_61 {d bc bs : Nat} {h : aH} {n : Nat} {Q : aQ} {ar0 : Nat} {x1 x2 x3 x4 : Int} {f1 : List aV} (h2 : h ar0 = cO 13 f1) (k : Rn d 0 0 mX13_happens 0 [some (vR (some ar0)), some (vI x4), none] [] h n (fun v h1 n1 => Rn (d + 1) bc bs mX13_years 67 [some (vR (some ar0)), some (vI x1), some (vI x2), some (vI x3), some (vI x4)] (v.toList ++ []) h1 n1 Q)) : Rn (d + 1) (bc) (bs) mX13_years 61 [some (vR (some ar0)), some (vI x1), some (vI x2), some (vI x3), some (vI x4)] [] h n Q := by
  refine Rn_aload_n dX13_years_61 rfl rfl rfl ?_
  refine Rn_iload dX13_years_62 rfl ?_
  exact Rn_callV (ci := 13) (avs := [vI x4]) (st := []) (bc1 := 0) (bs1 := 0) (bc2 := bc) (bs2 := bs) fx_X13_happens dX13_years_64 wd_1802 wd_1804 wd_101 rfl h2 rfl (Nat.le_of_ble_eq_true rfl) (Nat.le_of_ble_eq_true rfl) (by omega) (by omega) (ls1 := [some (vR (some ar0)), some (vI x4), none]) rfl k
theorem BX13_years_67 {d bc bs : Nat} {h : aH} {n : Nat} {Q : aQ} {r0 : Option Nat} {x1 x2 x3 x4 : Int} (b1 : -2147483648 ≤ x3 + 1 ∧ x3 + 1 < 2147483648) (k : Rn d bc bs mX13_years 43 [some (vR r0), some (vI x1), some (vI x2), some (vI (x3 + 1)), some (vI x4)] [] h n Q) : Rn d (bc) (bs) mX13_years 67 [some (vR r0), some (vI x1), some (vI x2), some (vI x3), some (vI x4)] [] h n Q := by
  refine Rn_iinc dX13_years_67 rfl (Nat.le_of_ble_eq_true rfl) rfl rfl rfl ?_
  rw [w32_id b1.1 b1.2]
  refine Rn_goto (tgt := 43) dX13_years_70 rfl ?_
  exact k
theorem BX13_years_73 {d bc bs : Nat} {h : aH} {n : Nat} {Q : aQ} {ar0 at3 : Nat} {x1 x2 x3 v7 : Int} {l4 : Option aV} {f1 : List aV} {w5 : List Int} (h2 : h ar0 = cO 13 f1) (g4 : f1[0]? = some (vR (some at3))) (h6 : h at3 = cI w5) (g8 : w5[(7 : Int).toNat]? = some v7) (k : Q (some (vI v7)) h n) : Rn d (bc) (bs) mX13_years 73 [some (vR (some ar0)), some (vI x1), some (vI x2), some (vI x3), l4] [] h n Q := by
  refine Rn_aload_n dX13_years_73 rfl rfl rfl ?_
  refine Rn_getfield (ci := 13) (k := 0) dX13_years_74 rfl in_13 (Nat.le_of_ble_eq_true rfl) wd_1352 rfl h2 g4 ?_
  refine Rn_bipush dX13_years_77 rfl ?_
  refine Rn_iaload dX13_years_79 h6 (by decide) g8 ?_
  exact Rn_ireturn rfl dX13_years_80 k
theorem dX13_cameTo_0 : decode cX13_cameTo 0 = .ok (.iconst 0, 1) := by decide +kernel
theorem dX13_cameTo_1 : decode cX13_cameTo 1 = .ok (.istore_n 2, 1) := by decide +kernel
theorem dX13_cameTo_2 : decode cX13_cameTo 2 = .ok (.iconst 0, 1) := by decide +kernel
theorem dX13_cameTo_3 : decode cX13_cameTo 3 = .ok (.istore_n 3, 1) := by decide +kernel
theorem dX13_cameTo_4 : decode cX13_cameTo 4 = .ok (.iload_n 3, 1) := by decide +kernel
theorem dX13_cameTo_5 : decode cX13_cameTo 5 = .ok (.aload_n 0, 1) := by decide +kernel
theorem dX13_cameTo_6 : decode cX13_cameTo 6 = .ok (.getfield 7, 3) := by decide +kernel
theorem dX13_cameTo_9 : decode cX13_cameTo 9 = .ok (.bipush 9, 2) := by decide +kernel
theorem dX13_cameTo_11 : decode cX13_cameTo 11 = .ok (.iaload, 1) := by decide +kernel
theorem dX13_cameTo_12 : decode cX13_cameTo 12 = .ok (.if_icmp .ge 37, 3) := by decide +kernel
theorem dX13_cameTo_15 : decode cX13_cameTo 15 = .ok (.iload_n 2, 1) := by decide +kernel
theorem dX13_cameTo_16 : decode cX13_cameTo 16 = .ok (.aload_n 0, 1) := by decide +kernel
theorem dX13_cameTo_17 : decode cX13_cameTo 17 = .ok (.iload_n 3, 1) := by decide +kernel
theorem dX13_cameTo_18 : decode cX13_cameTo 18 = .ok (.iconst 4, 1) := by decide +kernel
theorem dX13_cameTo_19 : decode cX13_cameTo 19 = .ok (.invokevirtual 80, 3) := by decide +kernel
theorem dX13_cameTo_22 : decode cX13_cameTo 22 = .ok (.iconst 1, 1) := by decide +kernel
theorem dX13_cameTo_23 : decode cX13_cameTo 23 = .ok (.if_icmp .ne 17, 3) := by decide +kernel
theorem dX13_cameTo_26 : decode cX13_cameTo 26 = .ok (.aload_n 0, 1) := by decide +kernel
theorem dX13_cameTo_27 : decode cX13_cameTo 27 = .ok (.iload_n 3, 1) := by decide +kernel
theorem dX13_cameTo_28 : decode cX13_cameTo 28 = .ok (.iconst 1, 1) := by decide +kernel
theorem dX13_cameTo_29 : decode cX13_cameTo 29 = .ok (.invokevirtual 80, 3) := by decide +kernel
theorem dX13_cameTo_32 : decode cX13_cameTo 32 = .ok (.iload_n 1, 1) := by decide +kernel
theorem dX13_cameTo_33 : decode cX13_cameTo 33 = .ok (.if_icmp .ne 7, 3) := by decide +kernel
theorem dX13_cameTo_36 : decode cX13_cameTo 36 = .ok (.iconst 1, 1) := by decide +kernel
theorem dX13_cameTo_37 : decode cX13_cameTo 37 = .ok (.goto 4, 3) := by decide +kernel
theorem dX13_cameTo_40 : decode cX13_cameTo 40 = .ok (.iconst 0, 1) := by decide +kernel
theorem dX13_cameTo_41 : decode cX13_cameTo 41 = .ok (.iadd, 1) := by decide +kernel
theorem dX13_cameTo_42 : decode cX13_cameTo 42 = .ok (.istore_n 2, 1) := by decide +kernel
theorem dX13_cameTo_43 : decode cX13_cameTo 43 = .ok (.iinc 3 1, 3) := by decide +kernel
theorem dX13_cameTo_46 : decode cX13_cameTo 46 = .ok (.goto (-42), 3) := by decide +kernel
theorem dX13_cameTo_49 : decode cX13_cameTo 49 = .ok (.iload_n 2, 1) := by decide +kernel
theorem dX13_cameTo_50 : decode cX13_cameTo 50 = .ok (.ireturn, 1) := by decide +kernel
theorem BX13_cameTo_0 {d bc bs : Nat} {h : aH} {n : Nat} {Q : aQ} {r0 : Option Nat} {x1 : Int} {l2 l3 : Option aV} (k : Rn d bc bs mX13_cameTo 4 [some (vR r0), some (vI x1), some (vI 0), some (vI 0)] [] h n Q) : Rn d (bc) (bs) mX13_cameTo 0 [some (vR r0), some (vI x1), l2, l3] [] h n Q := by
  refine Rn_iconst dX13_cameTo_0 rfl ?_
  refine Rn_istore_n dX13_cameTo_1 rfl (Nat.le_of_ble_eq_true rfl) rfl rfl ?_
  refine Rn_iconst dX13_cameTo_2 rfl ?_
  refine Rn_istore_n dX13_cameTo_3 rfl (Nat.le_of_ble_eq_true rfl) rfl rfl ?_
  exact k
theorem BX13_cameTo_4 {d bc bs : Nat} {h : aH} {n : Nat} {Q : aQ} {ar0 at3 : Nat} {x1 x2 x3 v7 : Int} {f1 : List aV} {w5 : List Int} (h2 : h ar0 = cO 13 f1) (g4 : f1[0]? = some (vR (some at3))) (h6 : h at3 = cI w5) (g8 : w5[(9 : Int).toNat]? = some v7) (kt : v7 ≤ x3 → Rn d bc bs mX13_cameTo 49 [some (vR (some ar0)), some (vI x1), some (vI x2), some (vI x3)] [] h n Q) (kf : x3 < v7 → Rn d bc bs mX13_cameTo 15 [some (vR (some ar0)), some (vI x1), some (vI x2), some (vI x3)] [] h n Q) : Rn d (bc) (bs) mX13_cameTo 4 [some (vR (some ar0)), some (vI x1), some (vI x2), some (vI x3)] [] h n Q := by
  refine Rn_iload_n dX13_cameTo_4 rfl rfl ?_
  refine Rn_aload_n dX13_cameTo_5 rfl rfl rfl ?_
  refine Rn_getfield (ci := 13) (k := 0) dX13_cameTo_6 rfl in_13 (Nat.le_of_ble_eq_true rfl) wd_1352 rfl h2 g4 ?_
  refine Rn_bipush dX13_cameTo_9 rfl ?_
  refine Rn_iaload dX13_cameTo_11 h6 (by decide) g8 ?_
  refine Rn_icmpge (tgt := 49) dX13_cameTo_12 rfl ?_ ?_
  · exact kt
  · exact kf
theorem BX13_cameTo_15 {d bc bs : Nat} {h : aH} {n : Nat} {Q : aQ} {ar0 : Nat} {x1 x2 x3 : Int} {f1 : List aV} (h2 : h ar0 = cO 13 f1) (k : Rn d 0 0 mX13_get 0 [some (vR (some ar0)), some (vI x3), some (vI 4)] [] h n (fun v h1 n1 => Rn (d + 1) bc bs mX13_cameTo 22 [some (vR (some ar0)), some (vI x1), some (vI x2), some (vI x3)] (v.toList ++ [vI x2]) h1 n1 Q)) : Rn (d + 1) (bc) (bs) mX13_cameTo 15 [some (vR (some ar0)), some (vI x1), some (vI x2), some (vI x3)] [] h n Q := by
  refine Rn_iload_n dX13_cameTo_15 rfl rfl ?_
  refine Rn_aload_n dX13_cameTo_16 rfl rfl rfl ?_
  refine Rn_iload_n dX13_cameTo_17 rfl rfl ?_
  refine Rn_iconst dX13_cameTo_18 rfl ?_
  exact Rn_callV (ci := 13) (avs := [vI x3, vI 4]) (st := [vI x2]) (bc1 := 0) (bs1 := 0) (bc2 := bc) (bs2 := bs) fx_X13_get dX13_cameTo_19 wd_1682 wd_1684 wd_82 rfl h2 rfl (Nat.le_of_ble_eq_true rfl) (Nat.le_of_ble_eq_true rfl) (by omega) (by omega) (ls1 := [some (vR (some ar0)), some (vI x3), some (vI 4)]) rfl k
theorem BX13_cameTo_22 {d bc bs : Nat} {h : aH} {n : Nat} {Q : aQ} {r0 : Option Nat} {x1 x2 x3 s0 s1 : Int} (kt : s1 ≠ 1 → Rn d bc bs mX13_cameTo 40 [some (vR r0), some (vI x1), some (vI x2), some (vI x3)] [vI s0] h n Q) (kf : s1 = 1 → Rn d bc bs mX13_cameTo 26 [some (vR r0), some (vI x1), some (vI x2), some (vI x3)] [vI s0] h n Q) : Rn d (bc) (bs) mX13_cameTo 22 [some (vR r0), some (vI x1), some (vI x2), some (vI x3)] [vI s1, vI s0] h n Q := by
  refine Rn_iconst dX13_cameTo_22 rfl ?_
  refine Rn_icmpne (tgt := 40) dX13_cameTo_23 rfl ?_ ?_
  · exact kt
  · exact kf
theorem BX13_cameTo_26 {d bc bs : Nat} {h : aH} {n : Nat} {Q : aQ} {ar0 : Nat} {x1 x2 x3 s0 : Int} {f1 : List aV} (h2 : h ar0 = cO 13 f1) (k : Rn d 0 0 mX13_get 0 [some (vR (some ar0)), some (vI x3), some (vI 1)] [] h n (fun v h1 n1 => Rn (d + 1) bc bs mX13_cameTo 32 [some (vR (some ar0)), some (vI x1), some (vI x2), some (vI x3)] (v.toList ++ [vI s0]) h1 n1 Q)) : Rn (d + 1) (bc) (bs) mX13_cameTo 26 [some (vR (some ar0)), some (vI x1), some (vI x2), some (vI x3)] [vI s0] h n Q := by
  refine Rn_aload_n dX13_cameTo_26 rfl rfl rfl ?_
  refine Rn_iload_n dX13_cameTo_27 rfl rfl ?_
  refine Rn_iconst dX13_cameTo_28 rfl ?_
  exact Rn_callV (ci := 13) (avs := [vI x3, vI 1]) (st := [vI s0]) (bc1 := 0) (bs1 := 0) (bc2 := bc) (bs2 := bs) fx_X13_get dX13_cameTo_29 wd_1682 wd_1684 wd_82 rfl h2 rfl (Nat.le_of_ble_eq_true rfl) (Nat.le_of_ble_eq_true rfl) (by omega) (by omega) (ls1 := [some (vR (some ar0)), some (vI x3), some (vI 1)]) rfl k
theorem BX13_cameTo_32 {d bc bs : Nat} {h : aH} {n : Nat} {Q : aQ} {r0 : Option Nat} {x1 x2 x3 s0 s1 : Int} (kt : s1 ≠ x1 → Rn d bc bs mX13_cameTo 40 [some (vR r0), some (vI x1), some (vI x2), some (vI x3)] [vI s0] h n Q) (kf : s1 = x1 → Rn d bc bs mX13_cameTo 36 [some (vR r0), some (vI x1), some (vI x2), some (vI x3)] [vI s0] h n Q) : Rn d (bc) (bs) mX13_cameTo 32 [some (vR r0), some (vI x1), some (vI x2), some (vI x3)] [vI s1, vI s0] h n Q := by
  refine Rn_iload_n dX13_cameTo_32 rfl rfl ?_
  refine Rn_icmpne (tgt := 40) dX13_cameTo_33 rfl ?_ ?_
  · exact kt
  · exact kf
theorem BX13_cameTo_36 {d bc bs : Nat} {h : aH} {n : Nat} {Q : aQ} {r0 : Option Nat} {x1 x2 x3 s0 : Int} (b1 : -2147483648 ≤ s0 + 1 ∧ s0 + 1 < 2147483648) (b2 : -2147483648 ≤ x3 + 1 ∧ x3 + 1 < 2147483648) (k : Rn d bc bs mX13_cameTo 4 [some (vR r0), some (vI x1), some (vI (s0 + 1)), some (vI (x3 + 1))] [] h n Q) : Rn d (bc) (bs) mX13_cameTo 36 [some (vR r0), some (vI x1), some (vI x2), some (vI x3)] [vI s0] h n Q := by
  refine Rn_iconst dX13_cameTo_36 rfl ?_
  refine Rn_goto (tgt := 41) dX13_cameTo_37 rfl ?_
  refine Rn_iadd dX13_cameTo_41 ?_
  rw [w32_id b1.1 b1.2]
  refine Rn_istore_n dX13_cameTo_42 rfl (Nat.le_of_ble_eq_true rfl) rfl rfl ?_
  refine Rn_iinc dX13_cameTo_43 rfl (Nat.le_of_ble_eq_true rfl) rfl rfl rfl ?_
  rw [w32_id b2.1 b2.2]
  refine Rn_goto (tgt := 4) dX13_cameTo_46 rfl ?_
  exact k
theorem BX13_cameTo_40 {d bc bs : Nat} {h : aH} {n : Nat} {Q : aQ} {r0 : Option Nat} {x1 x2 x3 s0 : Int} (b1 : -2147483648 ≤ s0 + 0 ∧ s0 + 0 < 2147483648) (b2 : -2147483648 ≤ x3 + 1 ∧ x3 + 1 < 2147483648) (k : Rn d bc bs mX13_cameTo 4 [some (vR r0), some (vI x1), some (vI (s0 + 0)), some (vI (x3 + 1))] [] h n Q) : Rn d (bc) (bs) mX13_cameTo 40 [some (vR r0), some (vI x1), some (vI x2), some (vI x3)] [vI s0] h n Q := by
  refine Rn_iconst dX13_cameTo_40 rfl ?_
  refine Rn_iadd dX13_cameTo_41 ?_
  rw [w32_id b1.1 b1.2]
  refine Rn_istore_n dX13_cameTo_42 rfl (Nat.le_of_ble_eq_true rfl) rfl rfl ?_
  refine Rn_iinc dX13_cameTo_43 rfl (Nat.le_of_ble_eq_true rfl) rfl rfl rfl ?_
  rw [w32_id b2.1 b2.2]
  refine Rn_goto (tgt := 4) dX13_cameTo_46 rfl ?_
  exact k
theorem BX13_cameTo_49 {d bc bs : Nat} {h : aH} {n : Nat} {Q : aQ} {r0 : Option Nat} {x1 x2 x3 : Int} (k : Q (some (vI x2)) h n) : Rn d (bc) (bs) mX13_cameTo 49 [some (vR r0), some (vI x1), some (vI x2), some (vI x3)] [] h n Q := by
  refine Rn_iload_n dX13_cameTo_49 rfl rfl ?_
  exact Rn_ireturn rfl dX13_cameTo_50 k
theorem dX13_withHow_0 : decode cX13_withHow 0 = .ok (.iconst 0, 1) := by decide +kernel
theorem dX13_withHow_1 : decode cX13_withHow 1 = .ok (.istore_n 2, 1) := by decide +kernel
theorem dX13_withHow_2 : decode cX13_withHow 2 = .ok (.iconst 0, 1) := by decide +kernel
theorem dX13_withHow_3 : decode cX13_withHow 3 = .ok (.istore_n 3, 1) := by decide +kernel
theorem dX13_withHow_4 : decode cX13_withHow 4 = .ok (.iload_n 3, 1) := by decide +kernel
theorem dX13_withHow_5 : decode cX13_withHow 5 = .ok (.aload_n 0, 1) := by decide +kernel
theorem dX13_withHow_6 : decode cX13_withHow 6 = .ok (.getfield 7, 3) := by decide +kernel
theorem dX13_withHow_9 : decode cX13_withHow 9 = .ok (.bipush 9, 2) := by decide +kernel
theorem dX13_withHow_11 : decode cX13_withHow 11 = .ok (.iaload, 1) := by decide +kernel
theorem dX13_withHow_12 : decode cX13_withHow 12 = .ok (.if_icmp .ge 29, 3) := by decide +kernel
theorem dX13_withHow_15 : decode cX13_withHow 15 = .ok (.iload_n 2, 1) := by decide +kernel
theorem dX13_withHow_16 : decode cX13_withHow 16 = .ok (.aload_n 0, 1) := by decide +kernel
theorem dX13_withHow_17 : decode cX13_withHow 17 = .ok (.iload_n 3, 1) := by decide +kernel
theorem dX13_withHow_18 : decode cX13_withHow 18 = .ok (.iconst 4, 1) := by decide +kernel
theorem dX13_withHow_19 : decode cX13_withHow 19 = .ok (.invokevirtual 80, 3) := by decide +kernel
theorem dX13_withHow_22 : decode cX13_withHow 22 = .ok (.iload_n 1, 1) := by decide +kernel
theorem dX13_withHow_23 : decode cX13_withHow 23 = .ok (.if_icmp .ne 9, 3) := by decide +kernel
theorem dX13_withHow_26 : decode cX13_withHow 26 = .ok (.iconst 1, 1) := by decide +kernel
theorem dX13_withHow_27 : decode cX13_withHow 27 = .ok (.iload_n 3, 1) := by decide +kernel
theorem dX13_withHow_28 : decode cX13_withHow 28 = .ok (.ishl, 1) := by decide +kernel
theorem dX13_withHow_29 : decode cX13_withHow 29 = .ok (.goto 4, 3) := by decide +kernel
theorem dX13_withHow_32 : decode cX13_withHow 32 = .ok (.iconst 0, 1) := by decide +kernel
theorem dX13_withHow_33 : decode cX13_withHow 33 = .ok (.ior, 1) := by decide +kernel
theorem dX13_withHow_34 : decode cX13_withHow 34 = .ok (.istore_n 2, 1) := by decide +kernel
theorem dX13_withHow_35 : decode cX13_withHow 35 = .ok (.iinc 3 1, 3) := by decide +kernel
theorem dX13_withHow_38 : decode cX13_withHow 38 = .ok (.goto (-34), 3) := by decide +kernel
theorem dX13_withHow_41 : decode cX13_withHow 41 = .ok (.iload_n 2, 1) := by decide +kernel
theorem dX13_withHow_42 : decode cX13_withHow 42 = .ok (.ireturn, 1) := by decide +kernel
theorem BX13_withHow_0 {d bc bs : Nat} {h : aH} {n : Nat} {Q : aQ} {r0 : Option Nat} {x1 : Int} {l2 l3 : Option aV} (k : Rn d bc bs mX13_withHow 4 [some (vR r0), some (vI x1), some (vI 0), some (vI 0)] [] h n Q) : Rn d (bc) (bs) mX13_withHow 0 [some (vR r0), some (vI x1), l2, l3] [] h n Q := by
  refine Rn_iconst dX13_withHow_0 rfl ?_
  refine Rn_istore_n dX13_withHow_1 rfl (Nat.le_of_ble_eq_true rfl) rfl rfl ?_
  refine Rn_iconst dX13_withHow_2 rfl ?_
  refine Rn_istore_n dX13_withHow_3 rfl (Nat.le_of_ble_eq_true rfl) rfl rfl ?_
  exact k
theorem BX13_withHow_4 {d bc bs : Nat} {h : aH} {n : Nat} {Q : aQ} {ar0 at3 : Nat} {x1 x2 x3 v7 : Int} {f1 : List aV} {w5 : List Int} (h2 : h ar0 = cO 13 f1) (g4 : f1[0]? = some (vR (some at3))) (h6 : h at3 = cI w5) (g8 : w5[(9 : Int).toNat]? = some v7) (kt : v7 ≤ x3 → Rn d bc bs mX13_withHow 41 [some (vR (some ar0)), some (vI x1), some (vI x2), some (vI x3)] [] h n Q) (kf : x3 < v7 → Rn d bc bs mX13_withHow 15 [some (vR (some ar0)), some (vI x1), some (vI x2), some (vI x3)] [] h n Q) : Rn d (bc) (bs) mX13_withHow 4 [some (vR (some ar0)), some (vI x1), some (vI x2), some (vI x3)] [] h n Q := by
  refine Rn_iload_n dX13_withHow_4 rfl rfl ?_
  refine Rn_aload_n dX13_withHow_5 rfl rfl rfl ?_
  refine Rn_getfield (ci := 13) (k := 0) dX13_withHow_6 rfl in_13 (Nat.le_of_ble_eq_true rfl) wd_1352 rfl h2 g4 ?_
  refine Rn_bipush dX13_withHow_9 rfl ?_
  refine Rn_iaload dX13_withHow_11 h6 (by decide) g8 ?_
  refine Rn_icmpge (tgt := 41) dX13_withHow_12 rfl ?_ ?_
  · exact kt
  · exact kf
theorem BX13_withHow_15 {d bc bs : Nat} {h : aH} {n : Nat} {Q : aQ} {ar0 : Nat} {x1 x2 x3 : Int} {f1 : List aV} (h2 : h ar0 = cO 13 f1) (k : Rn d 0 0 mX13_get 0 [some (vR (some ar0)), some (vI x3), some (vI 4)] [] h n (fun v h1 n1 => Rn (d + 1) bc bs mX13_withHow 22 [some (vR (some ar0)), some (vI x1), some (vI x2), some (vI x3)] (v.toList ++ [vI x2]) h1 n1 Q)) : Rn (d + 1) (bc) (bs) mX13_withHow 15 [some (vR (some ar0)), some (vI x1), some (vI x2), some (vI x3)] [] h n Q := by
  refine Rn_iload_n dX13_withHow_15 rfl rfl ?_
  refine Rn_aload_n dX13_withHow_16 rfl rfl rfl ?_
  refine Rn_iload_n dX13_withHow_17 rfl rfl ?_
  refine Rn_iconst dX13_withHow_18 rfl ?_
  exact Rn_callV (ci := 13) (avs := [vI x3, vI 4]) (st := [vI x2]) (bc1 := 0) (bs1 := 0) (bc2 := bc) (bs2 := bs) fx_X13_get dX13_withHow_19 wd_1682 wd_1684 wd_82 rfl h2 rfl (Nat.le_of_ble_eq_true rfl) (Nat.le_of_ble_eq_true rfl) (by omega) (by omega) (ls1 := [some (vR (some ar0)), some (vI x3), some (vI 4)]) rfl k
theorem BX13_withHow_22 {d bc bs : Nat} {h : aH} {n : Nat} {Q : aQ} {r0 : Option Nat} {x1 x2 x3 s0 s1 : Int} (kt : s1 ≠ x1 → Rn d bc bs mX13_withHow 32 [some (vR r0), some (vI x1), some (vI x2), some (vI x3)] [vI s0] h n Q) (kf : s1 = x1 → Rn d bc bs mX13_withHow 26 [some (vR r0), some (vI x1), some (vI x2), some (vI x3)] [vI s0] h n Q) : Rn d (bc) (bs) mX13_withHow 22 [some (vR r0), some (vI x1), some (vI x2), some (vI x3)] [vI s1, vI s0] h n Q := by
  refine Rn_iload_n dX13_withHow_22 rfl rfl ?_
  refine Rn_icmpne (tgt := 32) dX13_withHow_23 rfl ?_ ?_
  · exact kt
  · exact kf
theorem BX13_withHow_26 {d bc bs : Nat} {h : aH} {n : Nat} {Q : aQ} {r0 : Option Nat} {x1 x2 x3 s0 : Int} (b1 : -2147483648 ≤ x3 + 1 ∧ x3 + 1 < 2147483648) (k : Rn d bc bs mX13_withHow 4 [some (vR r0), some (vI x1), some (vI (or32 s0 (shl32 1 x3))), some (vI (x3 + 1))] [] h n Q) : Rn d (bc) (bs) mX13_withHow 26 [some (vR r0), some (vI x1), some (vI x2), some (vI x3)] [vI s0] h n Q := by
  refine Rn_iconst dX13_withHow_26 rfl ?_
  refine Rn_iload_n dX13_withHow_27 rfl rfl ?_
  refine Rn_ishl dX13_withHow_28 ?_
  refine Rn_goto (tgt := 33) dX13_withHow_29 rfl ?_
  refine Rn_ior dX13_withHow_33 ?_
  refine Rn_istore_n dX13_withHow_34 rfl (Nat.le_of_ble_eq_true rfl) rfl rfl ?_
  refine Rn_iinc dX13_withHow_35 rfl (Nat.le_of_ble_eq_true rfl) rfl rfl rfl ?_
  rw [w32_id b1.1 b1.2]
  refine Rn_goto (tgt := 4) dX13_withHow_38 rfl ?_
  exact k
theorem BX13_withHow_32 {d bc bs : Nat} {h : aH} {n : Nat} {Q : aQ} {r0 : Option Nat} {x1 x2 x3 s0 : Int} (b1 : -2147483648 ≤ x3 + 1 ∧ x3 + 1 < 2147483648) (k : Rn d bc bs mX13_withHow 4 [some (vR r0), some (vI x1), some (vI (or32 s0 0)), some (vI (x3 + 1))] [] h n Q) : Rn d (bc) (bs) mX13_withHow 32 [some (vR r0), some (vI x1), some (vI x2), some (vI x3)] [vI s0] h n Q := by
  refine Rn_iconst dX13_withHow_32 rfl ?_
  refine Rn_ior dX13_withHow_33 ?_
  refine Rn_istore_n dX13_withHow_34 rfl (Nat.le_of_ble_eq_true rfl) rfl rfl ?_
  refine Rn_iinc dX13_withHow_35 rfl (Nat.le_of_ble_eq_true rfl) rfl rfl rfl ?_
  rw [w32_id b1.1 b1.2]
  refine Rn_goto (tgt := 4) dX13_withHow_38 rfl ?_
  exact k
theorem BX13_withHow_41 {d bc bs : Nat} {h : aH} {n : Nat} {Q : aQ} {r0 : Option Nat} {x1 x2 x3 : Int} (k : Q (some (vI x2)) h n) : Rn d (bc) (bs) mX13_withHow 41 [some (vR r0), some (vI x1), some (vI x2), some (vI x3)] [] h n Q := by
  refine Rn_iload_n dX13_withHow_41 rfl rfl ?_
  exact Rn_ireturn rfl dX13_withHow_42 k
theorem dX13_of_0 : decode cX13_of 0 = .ok (.aload_n 0, 1) := by decide +kernel
theorem dX13_of_1 : decode cX13_of 1 = .ok (.iload_n 1, 1) := by decide +kernel
theorem dX13_of_2 : decode cX13_of 2 = .ok (.invokevirtual 343, 3) := by decide +kernel
theorem dX13_of_5 : decode cX13_of 5 = .ok (.ifCond .ne 5, 3) := by decide +kernel
theorem dX13_of_8 : decode cX13_of 8 = .ok (.iconst (-1), 1) := by decide +kernel
theorem dX13_of_9 : decode cX13_of 9 = .ok (.ireturn, 1) := by decide +kernel
theorem dX13_of_10 : decode cX13_of 10 = .ok (.iload_n 2, 1) := by decide +kernel
theorem dX13_of_11 : decode cX13_of 11 = .ok (.iconst 0, 1) := by decide +kernel
theorem dX13_of_12 : decode cX13_of 12 = .ok (.iconst 1, 1) := by decide +kernel
theorem dX13_of_13 : decode cX13_of 13 = .ok (.invokestatic 72, 3) := by decide +kernel
theorem dX13_of_16 : decode cX13_of 16 = .ok (.ifCond .eq 12, 3) := by decide +kernel
theorem dX13_of_19 : decode cX13_of 19 = .ok (.aload_n 0, 1) := by decide +kernel
theorem dX13_of_20 : decode cX13_of 20 = .ok (.iload_n 1, 1) := by decide +kernel
theorem dX13_of_21 : decode cX13_of 21 = .ok (.iload_n 2, 1) := by decide +kernel
theorem dX13_of_22 : decode cX13_of 22 = .ok (.invokevirtual 267, 3) := by decide +kernel
theorem dX13_of_25 : decode cX13_of 25 = .ok (.goto 32, 3) := by decide +kernel
theorem dX13_of_28 : decode cX13_of 28 = .ok (.iload_n 2, 1) := by decide +kernel
theorem dX13_of_29 : decode cX13_of 29 = .ok (.iconst 2, 1) := by decide +kernel
theorem dX13_of_30 : decode cX13_of 30 = .ok (.if_icmp .ne 11, 3) := by decide +kernel
theorem dX13_of_33 : decode cX13_of 33 = .ok (.aload_n 0, 1) := by decide +kernel
theorem dX13_of_34 : decode cX13_of 34 = .ok (.iload_n 1, 1) := by decide +kernel
theorem dX13_of_35 : decode cX13_of 35 = .ok (.invokevirtual 394, 3) := by decide +kernel
theorem dX13_of_38 : decode cX13_of 38 = .ok (.goto 19, 3) := by decide +kernel
theorem dX13_of_41 : decode cX13_of 41 = .ok (.iload_n 2, 1) := by decide +kernel
theorem dX13_of_42 : decode cX13_of 42 = .ok (.iconst 3, 1) := by decide +kernel
theorem dX13_of_43 : decode cX13_of 43 = .ok (.if_icmp .ne 13, 3) := by decide +kernel
theorem dX13_of_46 : decode cX13_of 46 = .ok (.aload_n 0, 1) := by decide +kernel
theorem dX13_of_47 : decode cX13_of 47 = .ok (.iconst 3, 1) := by decide +kernel
theorem dX13_of_48 : decode cX13_of 48 = .ok (.iload_n 1, 1) := by decide +kernel
theorem dX13_of_49 : decode cX13_of 49 = .ok (.iadd, 1) := by decide +kernel
theorem dX13_of_50 : decode cX13_of 50 = .ok (.invokevirtual 397, 3) := by decide +kernel
theorem dX13_of_53 : decode cX13_of 53 = .ok (.goto 4, 3) := by decide +kernel
theorem dX13_of_56 : decode cX13_of 56 = .ok (.iconst (-1), 1) := by decide +kernel
theorem dX13_of_57 : decode cX13_of 57 = .ok (.ireturn, 1) := by decide +kernel
theorem BX13_of_0 {d bc bs : Nat} {h : aH} {n : Nat} {Q : aQ} {ar0 : Nat} {x1 x2 : Int} {f1 : List aV} (h2 : h ar0 = cO 13 f1) (k : Rn d 0 0 mX13_isPerson 0 [some (vR (some ar0)), some (vI x1)] [] h n (fun v h1 n1 => Rn (d + 1) bc bs mX13_of 5 [some (vR (some ar0)), some (vI x1), some (vI x2)] (v.toList ++ []) h1 n1 Q)) : Rn (d + 1) (bc) (bs) mX13_of 0 [some (vR (some ar0)), some (vI x1), some (vI x2)] [] h n Q := by
  refine Rn_aload_n dX13_of_0 rfl rfl rfl ?_
  refine Rn_iload_n dX13_of_1 rfl rfl ?_
  exact Rn_callV (ci := 13) (avs := [vI x1]) (st := []) (bc1 := 0) (bs1 := 0) (bc2 := bc) (bs2 := bs) fx_X13_isPerson dX13_of_2 wd_1646 wd_1648 wd_74 rfl h2 rfl (Nat.le_of_ble_eq_true rfl) (Nat.le_of_ble_eq_true rfl) (by omega) (by omega) (ls1 := [some (vR (some ar0)), some (vI x1)]) rfl k
theorem BX13_of_5 {d bc bs : Nat} {h : aH} {n : Nat} {Q : aQ} {r0 : Option Nat} {x1 x2 s0 : Int} (kt : s0 ≠ 0 → Rn d bc bs mX13_of 10 [some (vR r0), some (vI x1), some (vI x2)] [] h n Q) (kf : s0 = 0 → Rn d bc bs mX13_of 8 [some (vR r0), some (vI x1), some (vI x2)] [] h n Q) : Rn d (bc) (bs) mX13_of 5 [some (vR r0), some (vI x1), some (vI x2)] [vI s0] h n Q := by
  refine Rn_ifne (tgt := 10) dX13_of_5 rfl ?_ ?_
  · exact kt
  · exact kf
theorem BX13_of_8 {d bc bs : Nat} {h : aH} {n : Nat} {Q : aQ} {r0 : Option Nat} {x1 x2 : Int} (k : Q (some (vI (-1))) h n) : Rn d (bc) (bs) mX13_of 8 [some (vR r0), some (vI x1), some (vI x2)] [] h n Q := by
  refine Rn_iconst dX13_of_8 rfl ?_
  exact Rn_ireturn rfl dX13_of_9 k
theorem BX13_of_10 {d bc bs : Nat} {h : aH} {n : Nat} {Q : aQ} {r0 : Option Nat} {x1 x2 : Int} (k : Rn d 0 0 mX13_isIn 0 [some (vI x2), some (vI 0), some (vI 1)] [] h n (fun v h1 n1 => Rn (d + 1) bc bs mX13_of 16 [some (vR r0), some (vI x1), some (vI x2)] (v.toList ++ []) h1 n1 Q)) : Rn (d + 1) (bc) (bs) mX13_of 10 [some (vR r0), some (vI x1), some (vI x2)] [] h n Q := by
  refine Rn_iload_n dX13_of_10 rfl rfl ?_
  refine Rn_iconst dX13_of_11 rfl ?_
  refine Rn_iconst dX13_of_12 rfl ?_
  exact Rn_callS (avs := [vI x2, vI 0, vI 1]) (st := []) (bc1 := 0) (bs1 := 0) (bc2 := bc) (bs2 := bs) fx_X13_isIn dX13_of_13 (Or.inl wd_1463) wd_1464 rfl (Nat.le_of_ble_eq_true rfl) (Nat.le_of_ble_eq_true rfl) (by omega) (by omega) (ls1 := [some (vI x2), some (vI 0), some (vI 1)]) rfl k
theorem BX13_of_16 {d bc bs : Nat} {h : aH} {n : Nat} {Q : aQ} {r0 : Option Nat} {x1 x2 s0 : Int} (kt : s0 = 0 → Rn d bc bs mX13_of 28 [some (vR r0), some (vI x1), some (vI x2)] [] h n Q) (kf : s0 ≠ 0 → Rn d bc bs mX13_of 19 [some (vR r0), some (vI x1), some (vI x2)] [] h n Q) : Rn d (bc) (bs) mX13_of 16 [some (vR r0), some (vI x1), some (vI x2)] [vI s0] h n Q := by
  refine Rn_ifeq (tgt := 28) dX13_of_16 rfl ?_ ?_
  · exact kt
  · exact kf
theorem BX13_of_19 {d bc bs : Nat} {h : aH} {n : Nat} {Q : aQ} {ar0 : Nat} {x1 x2 : Int} {f1 : List aV} (h2 : h ar0 = cO 13 f1) (k : Rn d 0 0 mX13_own 0 [some (vR (some ar0)), some (vI x1), some (vI x2)] [] h n (fun v h1 n1 => Rn (d + 1) bc bs mX13_of 25 [some (vR (some ar0)), some (vI x1), some (vI x2)] (v.toList ++ []) h1 n1 Q)) : Rn (d + 1) (bc) (bs) mX13_of 19 [some (vR (some ar0)), some (vI x1), some (vI x2)] [] h n Q := by
  refine Rn_aload_n dX13_of_19 rfl rfl rfl ?_
  refine Rn_iload_n dX13_of_20 rfl rfl ?_
  refine Rn_iload_n dX13_of_21 rfl rfl ?_
  exact Rn_callV (ci := 13) (avs := [vI x1, vI x2]) (st := []) (bc1 := 0) (bs1 := 0) (bc2 := bc) (bs2 := bs) fx_X13_own dX13_of_22 wd_1662 wd_1664 wd_78 rfl h2 rfl (Nat.le_of_ble_eq_true rfl) (Nat.le_of_ble_eq_true rfl) (by omega) (by omega) (ls1 := [some (vR (some ar0)), some (vI x1), some (vI x2)]) rfl k
theorem BX13_of_25 {d bc bs : Nat} {h : aH} {n : Nat} {Q : aQ} {r0 : Option Nat} {x1 x2 s0 : Int} (k : Q (some (vI s0)) h n) : Rn d (bc) (bs) mX13_of 25 [some (vR r0), some (vI x1), some (vI x2)] [vI s0] h n Q := by
  refine Rn_goto (tgt := 57) dX13_of_25 rfl ?_
  exact Rn_ireturn rfl dX13_of_57 k
theorem BX13_of_28 {d bc bs : Nat} {h : aH} {n : Nat} {Q : aQ} {r0 : Option Nat} {x1 x2 : Int} (kt : x2 ≠ 2 → Rn d bc bs mX13_of 41 [some (vR r0), some (vI x1), some (vI x2)] [] h n Q) (kf : x2 = 2 → Rn d bc bs mX13_of 33 [some (vR r0), some (vI x1), some (vI x2)] [] h n Q) : Rn d (bc) (bs) mX13_of 28 [some (vR r0), some (vI x1), some (vI x2)] [] h n Q := by
  refine Rn_iload_n dX13_of_28 rfl rfl ?_
  refine Rn_iconst dX13_of_29 rfl ?_
  refine Rn_icmpne (tgt := 41) dX13_of_30 rfl ?_ ?_
  · exact kt
  · exact kf
theorem BX13_of_33 {d bc bs : Nat} {h : aH} {n : Nat} {Q : aQ} {ar0 : Nat} {x1 x2 : Int} {f1 : List aV} (h2 : h ar0 = cO 13 f1) (k : Rn d 0 0 mX13_cameTo 0 [some (vR (some ar0)), some (vI x1), none, none] [] h n (fun v h1 n1 => Rn (d + 1) bc bs mX13_of 38 [some (vR (some ar0)), some (vI x1), some (vI x2)] (v.toList ++ []) h1 n1 Q)) : Rn (d + 1) (bc) (bs) mX13_of 33 [some (vR (some ar0)), some (vI x1), some (vI x2)] [] h n Q := by
  refine Rn_aload_n dX13_of_33 rfl rfl rfl ?_
  refine Rn_iload_n dX13_of_34 rfl rfl ?_
  exact Rn_callV (ci := 13) (avs := [vI x1]) (st := []) (bc1 := 0) (bs1 := 0) (bc2 := bc) (bs2 := bs) fx_X13_cameTo dX13_of_35 wd_1810 wd_1812 wd_102 rfl h2 rfl (Nat.le_of_ble_eq_true rfl) (Nat.le_of_ble_eq_true rfl) (by omega) (by omega) (ls1 := [some (vR (some ar0)), some (vI x1), none, none]) rfl k
theorem BX13_of_38 {d bc bs : Nat} {h : aH} {n : Nat} {Q : aQ} {r0 : Option Nat} {x1 x2 s0 : Int} (k : Q (some (vI s0)) h n) : Rn d (bc) (bs) mX13_of 38 [some (vR r0), some (vI x1), some (vI x2)] [vI s0] h n Q := by
  refine Rn_goto (tgt := 57) dX13_of_38 rfl ?_
  exact Rn_ireturn rfl dX13_of_57 k
theorem BX13_of_41 {d bc bs : Nat} {h : aH} {n : Nat} {Q : aQ} {r0 : Option Nat} {x1 x2 : Int} (kt : x2 ≠ 3 → Rn d bc bs mX13_of 56 [some (vR r0), some (vI x1), some (vI x2)] [] h n Q) (kf : x2 = 3 → Rn d bc bs mX13_of 46 [some (vR r0), some (vI x1), some (vI x2)] [] h n Q) : Rn d (bc) (bs) mX13_of 41 [some (vR r0), some (vI x1), some (vI x2)] [] h n Q := by
  refine Rn_iload_n dX13_of_41 rfl rfl ?_
  refine Rn_iconst dX13_of_42 rfl ?_
  refine Rn_icmpne (tgt := 56) dX13_of_43 rfl ?_ ?_
  · exact kt
  · exact kf
theorem BX13_of_46 {d bc bs : Nat} {h : aH} {n : Nat} {Q : aQ} {ar0 : Nat} {x1 x2 : Int} {f2 : List aV} (b1 : -2147483648 ≤ 3 + x1 ∧ 3 + x1 < 2147483648) (h3 : h ar0 = cO 13 f2) (k : Rn d 0 0 mX13_withHow 0 [some (vR (some ar0)), some (vI (3 + x1)), none, none] [] h n (fun v h1 n1 => Rn (d + 1) bc bs mX13_of 53 [some (vR (some ar0)), some (vI x1), some (vI x2)] (v.toList ++ []) h1 n1 Q)) : Rn (d + 1) (bc) (bs) mX13_of 46 [some (vR (some ar0)), some (vI x1), some (vI x2)] [] h n Q := by
  refine Rn_aload_n dX13_of_46 rfl rfl rfl ?_
  refine Rn_iconst dX13_of_47 rfl ?_
  refine Rn_iload_n dX13_of_48 rfl rfl ?_
  refine Rn_iadd dX13_of_49 ?_
  rw [w32_id b1.1 b1.2]
  exact Rn_callV (ci := 13) (avs := [vI (3 + x1)]) (st := []) (bc1 := 0) (bs1 := 0) (bc2 := bc) (bs2 := bs) fx_X13_withHow dX13_of_50 wd_1814 wd_1816 wd_103 rfl h3 rfl (Nat.le_of_ble_eq_true rfl) (Nat.le_of_ble_eq_true rfl) (by omega) (by omega) (ls1 := [some (vR (some ar0)), some (vI (3 + x1)), none, none]) rfl k
theorem BX13_of_53 {d bc bs : Nat} {h : aH} {n : Nat} {Q : aQ} {r0 : Option Nat} {x1 x2 s0 : Int} (k : Q (some (vI s0)) h n) : Rn d (bc) (bs) mX13_of 53 [some (vR r0), some (vI x1), some (vI x2)] [vI s0] h n Q := by
  refine Rn_goto (tgt := 57) dX13_of_53 rfl ?_
  exact Rn_ireturn rfl dX13_of_57 k
theorem BX13_of_56 {d bc bs : Nat} {h : aH} {n : Nat} {Q : aQ} {r0 : Option Nat} {x1 x2 : Int} (k : Q (some (vI (-1))) h n) : Rn d (bc) (bs) mX13_of 56 [some (vR r0), some (vI x1), some (vI x2)] [] h n Q := by
  refine Rn_iconst dX13_of_56 rfl ?_
  exact Rn_ireturn rfl dX13_of_57 k
theorem dX13_ofBottle_0 : decode cX13_ofBottle 0 = .ok (.aload_n 0, 1) := by decide +kernel
theorem dX13_ofBottle_1 : decode cX13_ofBottle 1 = .ok (.iload_n 1, 1) := by decide +kernel
theorem dX13_ofBottle_2 : decode cX13_ofBottle 2 = .ok (.invokevirtual 76, 3) := by decide +kernel
theorem dX13_ofBottle_5 : decode cX13_ofBottle 5 = .ok (.ifCond .ne 6, 3) := by decide +kernel
theorem dX13_ofBottle_8 : decode cX13_ofBottle 8 = .ok (.bipush (-2), 2) := by decide +kernel
theorem dX13_ofBottle_10 : decode cX13_ofBottle 10 = .ok (.ireturn, 1) := by decide +kernel
theorem dX13_ofBottle_11 : decode cX13_ofBottle 11 = .ok (.iload_n 2, 1) := by decide +kernel
theorem dX13_ofBottle_12 : decode cX13_ofBottle 12 = .ok (.iconst 0, 1) := by decide +kernel
theorem dX13_ofBottle_13 : decode cX13_ofBottle 13 = .ok (.iconst 5, 1) := by decide +kernel
theorem dX13_ofBottle_14 : decode cX13_ofBottle 14 = .ok (.invokestatic 72, 3) := by decide +kernel
theorem dX13_ofBottle_17 : decode cX13_ofBottle 17 = .ok (.ifCond .eq 12, 3) := by decide +kernel
theorem dX13_ofBottle_20 : decode cX13_ofBottle 20 = .ok (.aload_n 0, 1) := by decide +kernel
theorem dX13_ofBottle_21 : decode cX13_ofBottle 21 = .ok (.iload_n 1, 1) := by decide +kernel
theorem dX13_ofBottle_22 : decode cX13_ofBottle 22 = .ok (.iload_n 2, 1) := by decide +kernel
theorem dX13_ofBottle_23 : decode cX13_ofBottle 23 = .ok (.invokevirtual 80, 3) := by decide +kernel
theorem dX13_ofBottle_26 : decode cX13_ofBottle 26 = .ok (.goto 39, 3) := by decide +kernel
theorem dX13_ofBottle_29 : decode cX13_ofBottle 29 = .ok (.iload_n 2, 1) := by decide +kernel
theorem dX13_ofBottle_30 : decode cX13_ofBottle 30 = .ok (.bipush 6, 2) := by decide +kernel
theorem dX13_ofBottle_32 : decode cX13_ofBottle 32 = .ok (.if_icmp .ne 17, 3) := by decide +kernel
theorem dX13_ofBottle_35 : decode cX13_ofBottle 35 = .ok (.aload_n 0, 1) := by decide +kernel
theorem dX13_ofBottle_36 : decode cX13_ofBottle 36 = .ok (.aload_n 0, 1) := by decide +kernel
theorem dX13_ofBottle_37 : decode cX13_ofBottle 37 = .ok (.getfield 7, 3) := by decide +kernel
theorem dX13_ofBottle_40 : decode cX13_ofBottle 40 = .ok (.iconst 2, 1) := by decide +kernel
theorem dX13_ofBottle_41 : decode cX13_ofBottle 41 = .ok (.iaload, 1) := by decide +kernel
theorem dX13_ofBottle_42 : decode cX13_ofBottle 42 = .ok (.iload_n 1, 1) := by decide +kernel
theorem dX13_ofBottle_43 : decode cX13_ofBottle 43 = .ok (.invokevirtual 334, 3) := by decide +kernel
theorem dX13_ofBottle_46 : decode cX13_ofBottle 46 = .ok (.goto 19, 3) := by decide +kernel
theorem dX13_ofBottle_49 : decode cX13_ofBottle 49 = .ok (.iload_n 2, 1) := by decide +kernel
theorem dX13_ofBottle_50 : decode cX13_ofBottle 50 = .ok (.bipush 7, 2) := by decide +kernel
theorem dX13_ofBottle_52 : decode cX13_ofBottle 52 = .ok (.if_icmp .ne 11, 3) := by decide +kernel
theorem dX13_ofBottle_55 : decode cX13_ofBottle 55 = .ok (.aload_n 0, 1) := by decide +kernel
theorem dX13_ofBottle_56 : decode cX13_ofBottle 56 = .ok (.iload_n 1, 1) := by decide +kernel
theorem dX13_ofBottle_57 : decode cX13_ofBottle 57 = .ok (.invokevirtual 328, 3) := by decide +kernel
theorem dX13_ofBottle_60 : decode cX13_ofBottle 60 = .ok (.goto 5, 3) := by decide +kernel
theorem dX13_ofBottle_63 : decode cX13_ofBottle 63 = .ok (.bipush (-2), 2) := by decide +kernel
theorem dX13_ofBottle_65 : decode cX13_ofBottle 65 = .ok (.ireturn, 1) := by decide +kernel
theorem BX13_ofBottle_0 {d bc bs : Nat} {h : aH} {n : Nat} {Q : aQ} {ar0 : Nat} {x1 x2 : Int} {f1 : List aV} (h2 : h ar0 = cO 13 f1) (k : Rn d 0 0 mX13_isBottle 0 [some (vR (some ar0)), some (vI x1)] [] h n (fun v h1 n1 => Rn (d + 1) bc bs mX13_ofBottle 5 [some (vR (some ar0)), some (vI x1), some (vI x2)] (v.toList ++ []) h1 n1 Q)) : Rn (d + 1) (bc) (bs) mX13_ofBottle 0 [some (vR (some ar0)), some (vI x1), some (vI x2)] [] h n Q := by
  refine Rn_aload_n dX13_ofBottle_0 rfl rfl rfl ?_
  refine Rn_iload_n dX13_ofBottle_1 rfl rfl ?_
  exact Rn_callV (ci := 13) (avs := [vI x1]) (st := []) (bc1 := 0) (bs1 := 0) (bc2 := bc) (bs2 := bs) fx_X13_isBottle dX13_ofBottle_2 wd_1678 wd_1680 wd_81 rfl h2 rfl (Nat.le_of_ble_eq_true rfl) (Nat.le_of_ble_eq_true rfl) (by omega) (by omega) (ls1 := [some (vR (some ar0)), some (vI x1)]) rfl k
theorem BX13_ofBottle_5 {d bc bs : Nat} {h : aH} {n : Nat} {Q : aQ} {r0 : Option Nat} {x1 x2 s0 : Int} (kt : s0 ≠ 0 → Rn d bc bs mX13_ofBottle 11 [some (vR r0), some (vI x1), some (vI x2)] [] h n Q) (kf : s0 = 0 → Rn d bc bs mX13_ofBottle 8 [some (vR r0), some (vI x1), some (vI x2)] [] h n Q) : Rn d (bc) (bs) mX13_ofBottle 5 [some (vR r0), some (vI x1), some (vI x2)] [vI s0] h n Q := by
  refine Rn_ifne (tgt := 11) dX13_ofBottle_5 rfl ?_ ?_
  · exact kt
  · exact kf
theorem BX13_ofBottle_8 {d bc bs : Nat} {h : aH} {n : Nat} {Q : aQ} {r0 : Option Nat} {x1 x2 : Int} (k : Q (some (vI (-2))) h n) : Rn d (bc) (bs) mX13_ofBottle 8 [some (vR r0), some (vI x1), some (vI x2)] [] h n Q := by
  refine Rn_bipush dX13_ofBottle_8 rfl ?_
  exact Rn_ireturn rfl dX13_ofBottle_10 k
theorem BX13_ofBottle_11 {d bc bs : Nat} {h : aH} {n : Nat} {Q : aQ} {r0 : Option Nat} {x1 x2 : Int} (k : Rn d 0 0 mX13_isIn 0 [some (vI x2), some (vI 0), some (vI 5)] [] h n (fun v h1 n1 => Rn (d + 1) bc bs mX13_ofBottle 17 [some (vR r0), some (vI x1), some (vI x2)] (v.toList ++ []) h1 n1 Q)) : Rn (d + 1) (bc) (bs) mX13_ofBottle 11 [some (vR r0), some (vI x1), some (vI x2)] [] h n Q := by
  refine Rn_iload_n dX13_ofBottle_11 rfl rfl ?_
  refine Rn_iconst dX13_ofBottle_12 rfl ?_
  refine Rn_iconst dX13_ofBottle_13 rfl ?_
  exact Rn_callS (avs := [vI x2, vI 0, vI 5]) (st := []) (bc1 := 0) (bs1 := 0) (bc2 := bc) (bs2 := bs) fx_X13_isIn dX13_ofBottle_14 (Or.inl wd_1463) wd_1464 rfl (Nat.le_of_ble_eq_true rfl) (Nat.le_of_ble_eq_true rfl) (by omega) (by omega) (ls1 := [some (vI x2), some (vI 0), some (vI 5)]) rfl k
theorem BX13_ofBottle_17 {d bc bs : Nat} {h : aH} {n : Nat} {Q : aQ} {r0 : Option Nat} {x1 x2 s0 : Int} (kt : s0 = 0 → Rn d bc bs mX13_ofBottle 29 [some (vR r0), some (vI x1), some (vI x2)] [] h n Q) (kf : s0 ≠ 0 → Rn d bc bs mX13_ofBottle 20 [some (vR r0), some (vI x1), some (vI x2)] [] h n Q) : Rn d (bc) (bs) mX13_ofBottle 17 [some (vR r0), some (vI x1), some (vI x2)] [vI s0] h n Q := by
  refine Rn_ifeq (tgt := 29) dX13_ofBottle_17 rfl ?_ ?_
  · exact kt
  · exact kf
theorem BX13_ofBottle_20 {d bc bs : Nat} {h : aH} {n : Nat} {Q : aQ} {ar0 : Nat} {x1 x2 : Int} {f1 : List aV} (h2 : h ar0 = cO 13 f1) (k : Rn d 0 0 mX13_get 0 [some (vR (some ar0)), some (vI x1), some (vI x2)] [] h n (fun v h1 n1 => Rn (d + 1) bc bs mX13_ofBottle 26 [some (vR (some ar0)), some (vI x1), some (vI x2)] (v.toList ++ []) h1 n1 Q)) : Rn (d + 1) (bc) (bs) mX13_ofBottle 20 [some (vR (some ar0)), some (vI x1), some (vI x2)] [] h n Q := by
  refine Rn_aload_n dX13_ofBottle_20 rfl rfl rfl ?_
  refine Rn_iload_n dX13_ofBottle_21 rfl rfl ?_
  refine Rn_iload_n dX13_ofBottle_22 rfl rfl ?_
  exact Rn_callV (ci := 13) (avs := [vI x1, vI x2]) (st := []) (bc1 := 0) (bs1 := 0) (bc2 := bc) (bs2 := bs) fx_X13_get dX13_ofBottle_23 wd_1682 wd_1684 wd_82 rfl h2 rfl (Nat.le_of_ble_eq_true rfl) (Nat.le_of_ble_eq_true rfl) (by omega) (by omega) (ls1 := [some (vR (some ar0)), some (vI x1), some (vI x2)]) rfl k
theorem BX13_ofBottle_26 {d bc bs : Nat} {h : aH} {n : Nat} {Q : aQ} {r0 : Option Nat} {x1 x2 s0 : Int} (k : Q (some (vI s0)) h n) : Rn d (bc) (bs) mX13_ofBottle 26 [some (vR r0), some (vI x1), some (vI x2)] [vI s0] h n Q := by
  refine Rn_goto (tgt := 65) dX13_ofBottle_26 rfl ?_
  exact Rn_ireturn rfl dX13_ofBottle_65 k
theorem BX13_ofBottle_29 {d bc bs : Nat} {h : aH} {n : Nat} {Q : aQ} {r0 : Option Nat} {x1 x2 : Int} (kt : x2 ≠ 6 → Rn d bc bs mX13_ofBottle 49 [some (vR r0), some (vI x1), some (vI x2)] [] h n Q) (kf : x2 = 6 → Rn d bc bs mX13_ofBottle 35 [some (vR r0), some (vI x1), some (vI x2)] [] h n Q) : Rn d (bc) (bs) mX13_ofBottle 29 [some (vR r0), some (vI x1), some (vI x2)] [] h n Q := by
  refine Rn_iload_n dX13_ofBottle_29 rfl rfl ?_
  refine Rn_bipush dX13_ofBottle_30 rfl ?_
  refine Rn_icmpne (tgt := 49) dX13_ofBottle_32 rfl ?_ ?_
  · exact kt
  · exact kf
theorem BX13_ofBottle_35 {d bc bs : Nat} {h : aH} {n : Nat} {Q : aQ} {ar0 at3 : Nat} {x1 x2 v7 : Int} {f1 : List aV} {w5 : List Int} (h2 : h ar0 = cO 13 f1) (g4 : f1[0]? = some (vR (some at3))) (h6 : h at3 = cI w5) (g8 : w5[(2 : Int).toNat]? = some v7) (k : Rn d 0 0 mX13_comesOf 0 [some (vR (some ar0)), some (vI v7), some (vI x1)] [] h n (fun v h1 n1 => Rn (d + 1) bc bs mX13_ofBottle 46 [some (vR (some ar0)), some (vI x1), some (vI x2)] (v.toList ++ []) h1 n1 Q)) : Rn (d + 1) (bc) (bs) mX13_ofBottle 35 [some (vR (some ar0)), some (vI x1), some (vI x2)] [] h n Q := by
  refine Rn_aload_n dX13_ofBottle_35 rfl rfl rfl ?_
  refine Rn_aload_n dX13_ofBottle_36 rfl rfl rfl ?_
  refine Rn_getfield (ci := 13) (k := 0) dX13_ofBottle_37 rfl in_13 (Nat.le_of_ble_eq_true rfl) wd_1352 rfl h2 g4 ?_
  refine Rn_iconst dX13_ofBottle_40 rfl ?_
  refine Rn_iaload dX13_ofBottle_41 h6 (by decide) g8 ?_
  refine Rn_iload_n dX13_ofBottle_42 rfl rfl ?_
  exact Rn_callV (ci := 13) (avs := [vI v7, vI x1]) (st := []) (bc1 := 0) (bs1 := 0) (bc2 := bc) (bs2 := bs) fx_X13_comesOf dX13_ofBottle_43 wd_1774 wd_1776 wd_98 rfl h2 rfl (Nat.le_of_ble_eq_true rfl) (Nat.le_of_ble_eq_true rfl) (by omega) (by omega) (ls1 := [some (vR (some ar0)), some (vI v7), some (vI x1)]) rfl k
theorem BX13_ofBottle_46 {d bc bs : Nat} {h : aH} {n : Nat} {Q : aQ} {r0 : Option Nat} {x1 x2 s0 : Int} (k : Q (some (vI s0)) h n) : Rn d (bc) (bs) mX13_ofBottle 46 [some (vR r0), some (vI x1), some (vI x2)] [vI s0] h n Q := by
  refine Rn_goto (tgt := 65) dX13_ofBottle_46 rfl ?_
  exact Rn_ireturn rfl dX13_ofBottle_65 k
theorem BX13_ofBottle_49 {d bc bs : Nat} {h : aH} {n : Nat} {Q : aQ} {r0 : Option Nat} {x1 x2 : Int} (kt : x2 ≠ 7 → Rn d bc bs mX13_ofBottle 63 [some (vR r0), some (vI x1), some (vI x2)] [] h n Q) (kf : x2 = 7 → Rn d bc bs mX13_ofBottle 55 [some (vR r0), some (vI x1), some (vI x2)] [] h n Q) : Rn d (bc) (bs) mX13_ofBottle 49 [some (vR r0), some (vI x1), some (vI x2)] [] h n Q := by
  refine Rn_iload_n dX13_ofBottle_49 rfl rfl ?_
  refine Rn_bipush dX13_ofBottle_50 rfl ?_
  refine Rn_icmpne (tgt := 63) dX13_ofBottle_52 rfl ?_ ?_
  · exact kt
  · exact kf
theorem BX13_ofBottle_55 {d bc bs : Nat} {h : aH} {n : Nat} {Q : aQ} {ar0 : Nat} {x1 x2 : Int} {f1 : List aV} (h2 : h ar0 = cO 13 f1) (k : Rn d 0 0 mX13_wearsOf 0 [some (vR (some ar0)), some (vI x1)] [] h n (fun v h1 n1 => Rn (d + 1) bc bs mX13_ofBottle 60 [some (vR (some ar0)), some (vI x1), some (vI x2)] (v.toList ++ []) h1 n1 Q)) : Rn (d + 1) (bc) (bs) mX13_ofBottle 55 [some (vR (some ar0)), some (vI x1), some (vI x2)] [] h n Q := by
  refine Rn_aload_n dX13_ofBottle_55 rfl rfl rfl ?_
  refine Rn_iload_n dX13_ofBottle_56 rfl rfl ?_
  exact Rn_callV (ci := 13) (avs := [vI x1]) (st := []) (bc1 := 0) (bs1 := 0) (bc2 := bc) (bs2 := bs) fx_X13_wearsOf dX13_ofBottle_57 wd_1726 wd_1728 wd_91 rfl h2 rfl (Nat.le_of_ble_eq_true rfl) (Nat.le_of_ble_eq_true rfl) (by omega) (by omega) (ls1 := [some (vR (some ar0)), some (vI x1)]) rfl k
theorem BX13_ofBottle_60 {d bc bs : Nat} {h : aH} {n : Nat} {Q : aQ} {r0 : Option Nat} {x1 x2 s0 : Int} (k : Q (some (vI s0)) h n) : Rn d (bc) (bs) mX13_ofBottle 60 [some (vR r0), some (vI x1), some (vI x2)] [vI s0] h n Q := by
  refine Rn_goto (tgt := 65) dX13_ofBottle_60 rfl ?_
  exact Rn_ireturn rfl dX13_ofBottle_65 k
theorem BX13_ofBottle_63 {d bc bs : Nat} {h : aH} {n : Nat} {Q : aQ} {r0 : Option Nat} {x1 x2 : Int} (k : Q (some (vI (-2))) h n) : Rn d (bc) (bs) mX13_ofBottle 63 [some (vR r0), some (vI x1), some (vI x2)] [] h n Q := by
  refine Rn_bipush dX13_ofBottle_63 rfl ?_
  exact Rn_ireturn rfl dX13_ofBottle_65 k
theorem dX13_told_0 : decode cX13_told 0 = .ok (.iload_n 1, 1) := by decide +kernel
theorem dX13_told_1 : decode cX13_told 1 = .ok (.iconst 0, 1) := by decide +kernel
theorem dX13_told_2 : decode cX13_told 2 = .ok (.iconst 2, 1) := by decide +kernel
theorem dX13_told_3 : decode cX13_told 3 = .ok (.invokestatic 72, 3) := by decide +kernel
theorem dX13_told_6 : decode cX13_told 6 = .ok (.ifCond .eq 19, 3) := by decide +kernel
theorem dX13_told_9 : decode cX13_told 9 = .ok (.iload_n 2, 1) := by decide +kernel
theorem dX13_told_10 : decode cX13_told 10 = .ok (.invokestatic 84, 3) := by decide +kernel
theorem dX13_told_13 : decode cX13_told 13 = .ok (.ifCond .eq 12, 3) := by decide +kernel
theorem dX13_told_16 : decode cX13_told 16 = .ok (.aload_n 0, 1) := by decide +kernel
theorem dX13_told_17 : decode cX13_told 17 = .ok (.iload_n 1, 1) := by decide +kernel
theorem dX13_told_18 : decode cX13_told 18 = .ok (.iload_n 2, 1) := by decide +kernel
theorem dX13_told_19 : decode cX13_told 19 = .ok (.invokevirtual 325, 3) := by decide +kernel
theorem dX13_told_22 : decode cX13_told 22 = .ok (.goto 4, 3) := by decide +kernel
theorem dX13_told_25 : decode cX13_told 25 = .ok (.iconst (-1), 1) := by decide +kernel
theorem dX13_told_26 : decode cX13_told 26 = .ok (.ireturn, 1) := by decide +kernel
theorem BX13_told_0 {d bc bs : Nat} {h : aH} {n : Nat} {Q : aQ} {r0 : Option Nat} {x1 x2 : Int} (k : Rn d 0 0 mX13_isIn 0 [some (vI x1), some (vI 0), some (vI 2)] [] h n (fun v h1 n1 => Rn (d + 1) bc bs mX13_told 6 [some (vR r0), some (vI x1), some (vI x2)] (v.toList ++ []) h1 n1 Q)) : Rn (d + 1) (bc) (bs) mX13_told 0 [some (vR r0), some (vI x1), some (vI x2)] [] h n Q := by
  refine Rn_iload_n dX13_told_0 rfl rfl ?_
  refine Rn_iconst dX13_told_1 rfl ?_
  refine Rn_iconst dX13_told_2 rfl ?_
  exact Rn_callS (avs := [vI x1, vI 0, vI 2]) (st := []) (bc1 := 0) (bs1 := 0) (bc2 := bc) (bs2 := bs) fx_X13_isIn dX13_told_3 (Or.inl wd_1463) wd_1464 rfl (Nat.le_of_ble_eq_true rfl) (Nat.le_of_ble_eq_true rfl) (by omega) (by omega) (ls1 := [some (vI x1), some (vI 0), some (vI 2)]) rfl k
theorem BX13_told_6 {d bc bs : Nat} {h : aH} {n : Nat} {Q : aQ} {r0 : Option Nat} {x1 x2 s0 : Int} (kt : s0 = 0 → Rn d bc bs mX13_told 25 [some (vR r0), some (vI x1), some (vI x2)] [] h n Q) (kf : s0 ≠ 0 → Rn d bc bs mX13_told 9 [some (vR r0), some (vI x1), some (vI x2)] [] h n Q) : Rn d (bc) (bs) mX13_told 6 [some (vR r0), some (vI x1), some (vI x2)] [vI s0] h n Q := by
  refine Rn_ifeq (tgt := 25) dX13_told_6 rfl ?_ ?_
  · exact kt
  · exact kf
theorem BX13_told_9 {d bc bs : Nat} {h : aH} {n : Nat} {Q : aQ} {r0 : Option Nat} {x1 x2 : Int} (k : Rn d 0 0 mX13_isPlace 0 [some (vI x2)] [] h n (fun v h1 n1 => Rn (d + 1) bc bs mX13_told 13 [some (vR r0), some (vI x1), some (vI x2)] (v.toList ++ []) h1 n1 Q)) : Rn (d + 1) (bc) (bs) mX13_told 9 [some (vR r0), some (vI x1), some (vI x2)] [] h n Q := by
  refine Rn_iload_n dX13_told_9 rfl rfl ?_
  exact Rn_callS (avs := [vI x2]) (st := []) (bc1 := 0) (bs1 := 0) (bc2 := bc) (bs2 := bs) fx_X13_isPlace dX13_told_10 (Or.inl wd_1460) wd_1461 rfl (Nat.le_of_ble_eq_true rfl) (Nat.le_of_ble_eq_true rfl) (by omega) (by omega) (ls1 := [some (vI x2)]) rfl k
theorem BX13_told_13 {d bc bs : Nat} {h : aH} {n : Nat} {Q : aQ} {r0 : Option Nat} {x1 x2 s0 : Int} (kt : s0 = 0 → Rn d bc bs mX13_told 25 [some (vR r0), some (vI x1), some (vI x2)] [] h n Q) (kf : s0 ≠ 0 → Rn d bc bs mX13_told 16 [some (vR r0), some (vI x1), some (vI x2)] [] h n Q) : Rn d (bc) (bs) mX13_told 13 [some (vR r0), some (vI x1), some (vI x2)] [vI s0] h n Q := by
  refine Rn_ifeq (tgt := 25) dX13_told_13 rfl ?_ ?_
  · exact kt
  · exact kf
theorem BX13_told_16 {d bc bs : Nat} {h : aH} {n : Nat} {Q : aQ} {ar0 : Nat} {x1 x2 : Int} {f1 : List aV} (h2 : h ar0 = cO 13 f1) (k : Rn d 0 0 mX13_flowsTo 0 [some (vR (some ar0)), some (vI x1), some (vI x2)] [] h n (fun v h1 n1 => Rn (d + 1) bc bs mX13_told 22 [some (vR (some ar0)), some (vI x1), some (vI x2)] (v.toList ++ []) h1 n1 Q)) : Rn (d + 1) (bc) (bs) mX13_told 16 [some (vR (some ar0)), some (vI x1), some (vI x2)] [] h n Q := by
  refine Rn_aload_n dX13_told_16 rfl rfl rfl ?_
  refine Rn_iload_n dX13_told_17 rfl rfl ?_
  refine Rn_iload_n dX13_told_18 rfl rfl ?_
  exact Rn_callV (ci := 13) (avs := [vI x1, vI x2]) (st := []) (bc1 := 0) (bs1 := 0) (bc2 := bc) (bs2 := bs) fx_X13_flowsTo dX13_told_19 wd_1722 wd_1724 wd_90 rfl h2 rfl (Nat.le_of_ble_eq_true rfl) (Nat.le_of_ble_eq_true rfl) (by omega) (by omega) (ls1 := [some (vR (some ar0)), some (vI x1), some (vI x2)]) rfl k
theorem BX13_told_22 {d bc bs : Nat} {h : aH} {n : Nat} {Q : aQ} {r0 : Option Nat} {x1 x2 s0 : Int} (k : Q (some (vI s0)) h n) : Rn d (bc) (bs) mX13_told 22 [some (vR r0), some (vI x1), some (vI x2)] [vI s0] h n Q := by
  refine Rn_goto (tgt := 26) dX13_told_22 rfl ?_
  exact Rn_ireturn rfl dX13_told_26 k
theorem BX13_told_25 {d bc bs : Nat} {h : aH} {n : Nat} {Q : aQ} {r0 : Option Nat} {x1 x2 : Int} (k : Q (some (vI (-1))) h n) : Rn d (bc) (bs) mX13_told 25 [some (vR r0), some (vI x1), some (vI x2)] [] h n Q := by
  refine Rn_iconst dX13_told_25 rfl ?_
  exact Rn_ireturn rfl dX13_told_26 k
theorem dX13_is_0 : decode cX13_is 0 = .ok (.iload_n 1, 1) := by decide +kernel
theorem dX13_is_1 : decode cX13_is 1 = .ok (.ifCond .ne 13, 3) := by decide +kernel
theorem dX13_is_4 : decode cX13_is 4 = .ok (.aload_n 0, 1) := by decide +kernel
theorem dX13_is_5 : decode cX13_is 5 = .ok (.getfield 7, 3) := by decide +kernel
theorem dX13_is_8 : decode cX13_is 8 = .ok (.bipush 7, 2) := by decide +kernel
theorem dX13_is_10 : decode cX13_is 10 = .ok (.iaload, 1) := by decide +kernel
theorem dX13_is_11 : decode cX13_is 11 = .ok (.goto 48, 3) := by decide +kernel
theorem dX13_is_14 : decode cX13_is 14 = .ok (.iload_n 1, 1) := by decide +kernel
theorem dX13_is_15 : decode cX13_is 15 = .ok (.iconst 1, 1) := by decide +kernel
theorem dX13_is_16 : decode cX13_is 16 = .ok (.if_icmp .ne 13, 3) := by decide +kernel
theorem dX13_is_19 : decode cX13_is 19 = .ok (.aload_n 0, 1) := by decide +kernel
theorem dX13_is_20 : decode cX13_is 20 = .ok (.getfield 7, 3) := by decide +kernel
theorem dX13_is_23 : decode cX13_is 23 = .ok (.bipush 8, 2) := by decide +kernel
theorem dX13_is_25 : decode cX13_is 25 = .ok (.iaload, 1) := by decide +kernel
theorem dX13_is_26 : decode cX13_is 26 = .ok (.goto 33, 3) := by decide +kernel
theorem dX13_is_29 : decode cX13_is 29 = .ok (.iload_n 1, 1) := by decide +kernel
theorem dX13_is_30 : decode cX13_is 30 = .ok (.iconst 2, 1) := by decide +kernel
theorem dX13_is_31 : decode cX13_is 31 = .ok (.if_icmp .ne 11, 3) := by decide +kernel
theorem dX13_is_34 : decode cX13_is 34 = .ok (.aload_n 0, 1) := by decide +kernel
theorem dX13_is_35 : decode cX13_is 35 = .ok (.iconst 0, 1) := by decide +kernel
theorem dX13_is_36 : decode cX13_is 36 = .ok (.invokevirtual 397, 3) := by decide +kernel
theorem dX13_is_39 : decode cX13_is 39 = .ok (.goto 20, 3) := by decide +kernel
theorem dX13_is_42 : decode cX13_is 42 = .ok (.iload_n 1, 1) := by decide +kernel
theorem dX13_is_43 : decode cX13_is 43 = .ok (.iconst 3, 1) := by decide +kernel
theorem dX13_is_44 : decode cX13_is 44 = .ok (.if_icmp .ne 13, 3) := by decide +kernel
theorem dX13_is_47 : decode cX13_is 47 = .ok (.aload_n 0, 1) := by decide +kernel
theorem dX13_is_48 : decode cX13_is 48 = .ok (.getfield 7, 3) := by decide +kernel
theorem dX13_is_51 : decode cX13_is 51 = .ok (.bipush 9, 2) := by decide +kernel
theorem dX13_is_53 : decode cX13_is 53 = .ok (.iaload, 1) := by decide +kernel
theorem dX13_is_54 : decode cX13_is 54 = .ok (.goto 5, 3) := by decide +kernel
theorem dX13_is_57 : decode cX13_is 57 = .ok (.bipush (-2), 2) := by decide +kernel
theorem dX13_is_59 : decode cX13_is 59 = .ok (.ireturn, 1) := by decide +kernel
theorem BX13_is_0 {d bc bs : Nat} {h : aH} {n : Nat} {Q : aQ} {r0 : Option Nat} {x1 : Int} (kt : x1 ≠ 0 → Rn d bc bs mX13_is 14 [some (vR r0), some (vI x1)] [] h n Q) (kf : x1 = 0 → Rn d bc bs mX13_is 4 [some (vR r0), some (vI x1)] [] h n Q) : Rn d (bc) (bs) mX13_is 0 [some (vR r0), some (vI x1)] [] h n Q := by
  refine Rn_iload_n dX13_is_0 rfl rfl ?_
  refine Rn_ifne (tgt := 14) dX13_is_1 rfl ?_ ?_
  · exact kt
  · exact kf
theorem BX13_is_4 {d bc bs : Nat} {h : aH} {n : Nat} {Q : aQ} {ar0 at3 : Nat} {x1 v7 : Int} {f1 : List aV} {w5 : List Int} (h2 : h ar0 = cO 13 f1) (g4 : f1[0]? = some (vR (some at3))) (h6 : h at3 = cI w5) (g8 : w5[(7 : Int).toNat]? = some v7) (k : Q (some (vI v7)) h n) : Rn d (bc) (bs) mX13_is 4 [some (vR (some ar0)), some (vI x1)] [] h n Q := by
  refine Rn_aload_n dX13_is_4 rfl rfl rfl ?_
  refine Rn_getfield (ci := 13) (k := 0) dX13_is_5 rfl in_13 (Nat.le_of_ble_eq_true rfl) wd_1352 rfl h2 g4 ?_
  refine Rn_bipush dX13_is_8 rfl ?_
  refine Rn_iaload dX13_is_10 h6 (by decide) g8 ?_
  refine Rn_goto (tgt := 59) dX13_is_11 rfl ?_
  exact Rn_ireturn rfl dX13_is_59 k
theorem BX13_is_14 {d bc bs : Nat} {h : aH} {n : Nat} {Q : aQ} {r0 : Option Nat} {x1 : Int} (kt : x1 ≠ 1 → Rn d bc bs mX13_is 29 [some (vR r0), some (vI x1)] [] h n Q) (kf : x1 = 1 → Rn d bc bs mX13_is 19 [some (vR r0), some (vI x1)] [] h n Q) : Rn d (bc) (bs) mX13_is 14 [some (vR r0), some (vI x1)] [] h n Q := by
  refine Rn_iload_n dX13_is_14 rfl rfl ?_
  refine Rn_iconst dX13_is_15 rfl ?_
  refine Rn_icmpne (tgt := 29) dX13_is_16 rfl ?_ ?_
  · exact kt
  · exact kf
theorem BX13_is_19 {d bc bs : Nat} {h : aH} {n : Nat} {Q : aQ} {ar0 at3 : Nat} {x1 v7 : Int} {f1 : List aV} {w5 : List Int} (h2 : h ar0 = cO 13 f1) (g4 : f1[0]? = some (vR (some at3))) (h6 : h at3 = cI w5) (g8 : w5[(8 : Int).toNat]? = some v7) (k : Q (some (vI v7)) h n) : Rn d (bc) (bs) mX13_is 19 [some (vR (some ar0)), some (vI x1)] [] h n Q := by
  refine Rn_aload_n dX13_is_19 rfl rfl rfl ?_
  refine Rn_getfield (ci := 13) (k := 0) dX13_is_20 rfl in_13 (Nat.le_of_ble_eq_true rfl) wd_1352 rfl h2 g4 ?_
  refine Rn_bipush dX13_is_23 rfl ?_
  refine Rn_iaload dX13_is_25 h6 (by decide) g8 ?_
  refine Rn_goto (tgt := 59) dX13_is_26 rfl ?_
  exact Rn_ireturn rfl dX13_is_59 k
theorem BX13_is_29 {d bc bs : Nat} {h : aH} {n : Nat} {Q : aQ} {r0 : Option Nat} {x1 : Int} (kt : x1 ≠ 2 → Rn d bc bs mX13_is 42 [some (vR r0), some (vI x1)] [] h n Q) (kf : x1 = 2 → Rn d bc bs mX13_is 34 [some (vR r0), some (vI x1)] [] h n Q) : Rn d (bc) (bs) mX13_is 29 [some (vR r0), some (vI x1)] [] h n Q := by
  refine Rn_iload_n dX13_is_29 rfl rfl ?_
  refine Rn_iconst dX13_is_30 rfl ?_
  refine Rn_icmpne (tgt := 42) dX13_is_31 rfl ?_ ?_
  · exact kt
  · exact kf
theorem BX13_is_34 {d bc bs : Nat} {h : aH} {n : Nat} {Q : aQ} {ar0 : Nat} {x1 : Int} {f1 : List aV} (h2 : h ar0 = cO 13 f1) (k : Rn d 0 0 mX13_withHow 0 [some (vR (some ar0)), some (vI 0), none, none] [] h n (fun v h1 n1 => Rn (d + 1) bc bs mX13_is 39 [some (vR (some ar0)), some (vI x1)] (v.toList ++ []) h1 n1 Q)) : Rn (d + 1) (bc) (bs) mX13_is 34 [some (vR (some ar0)), some (vI x1)] [] h n Q := by
  refine Rn_aload_n dX13_is_34 rfl rfl rfl ?_
  refine Rn_iconst dX13_is_35 rfl ?_
  exact Rn_callV (ci := 13) (avs := [vI 0]) (st := []) (bc1 := 0) (bs1 := 0) (bc2 := bc) (bs2 := bs) fx_X13_withHow dX13_is_36 wd_1814 wd_1816 wd_103 rfl h2 rfl (Nat.le_of_ble_eq_true rfl) (Nat.le_of_ble_eq_true rfl) (by omega) (by omega) (ls1 := [some (vR (some ar0)), some (vI 0), none, none]) rfl k
theorem BX13_is_39 {d bc bs : Nat} {h : aH} {n : Nat} {Q : aQ} {r0 : Option Nat} {x1 s0 : Int} (k : Q (some (vI s0)) h n) : Rn d (bc) (bs) mX13_is 39 [some (vR r0), some (vI x1)] [vI s0] h n Q := by
  refine Rn_goto (tgt := 59) dX13_is_39 rfl ?_
  exact Rn_ireturn rfl dX13_is_59 k
theorem BX13_is_42 {d bc bs : Nat} {h : aH} {n : Nat} {Q : aQ} {r0 : Option Nat} {x1 : Int} (kt : x1 ≠ 3 → Rn d bc bs mX13_is 57 [some (vR r0), some (vI x1)] [] h n Q) (kf : x1 = 3 → Rn d bc bs mX13_is 47 [some (vR r0), some (vI x1)] [] h n Q) : Rn d (bc) (bs) mX13_is 42 [some (vR r0), some (vI x1)] [] h n Q := by
  refine Rn_iload_n dX13_is_42 rfl rfl ?_
  refine Rn_iconst dX13_is_43 rfl ?_
  refine Rn_icmpne (tgt := 57) dX13_is_44 rfl ?_ ?_
  · exact kt
  · exact kf
theorem BX13_is_47 {d bc bs : Nat} {h : aH} {n : Nat} {Q : aQ} {ar0 at3 : Nat} {x1 v7 : Int} {f1 : List aV} {w5 : List Int} (h2 : h ar0 = cO 13 f1) (g4 : f1[0]? = some (vR (some at3))) (h6 : h at3 = cI w5) (g8 : w5[(9 : Int).toNat]? = some v7) (k : Q (some (vI v7)) h n) : Rn d (bc) (bs) mX13_is 47 [some (vR (some ar0)), some (vI x1)] [] h n Q := by
  refine Rn_aload_n dX13_is_47 rfl rfl rfl ?_
  refine Rn_getfield (ci := 13) (k := 0) dX13_is_48 rfl in_13 (Nat.le_of_ble_eq_true rfl) wd_1352 rfl h2 g4 ?_
  refine Rn_bipush dX13_is_51 rfl ?_
  refine Rn_iaload dX13_is_53 h6 (by decide) g8 ?_
  refine Rn_goto (tgt := 59) dX13_is_54 rfl ?_
  exact Rn_ireturn rfl dX13_is_59 k
theorem BX13_is_57 {d bc bs : Nat} {h : aH} {n : Nat} {Q : aQ} {r0 : Option Nat} {x1 : Int} (k : Q (some (vI (-2))) h n) : Rn d (bc) (bs) mX13_is 57 [some (vR r0), some (vI x1)] [] h n Q := by
  refine Rn_bipush dX13_is_57 rfl ?_
  exact Rn_ireturn rfl dX13_is_59 k
theorem dX13_entry_0 : decode cX13_entry 0 = .ok (.aload_n 0, 1) := by decide +kernel
theorem dX13_entry_1 : decode cX13_entry 1 = .ok (.getfield 7, 3) := by decide +kernel
theorem dX13_entry_4 : decode cX13_entry 4 = .ok (.sipush 3359, 3) := by decide +kernel
theorem dX13_entry_7 : decode cX13_entry 7 = .ok (.iload_n 1, 1) := by decide +kernel
theorem dX13_entry_8 : decode cX13_entry 8 = .ok (.iadd, 1) := by decide +kernel
theorem dX13_entry_9 : decode cX13_entry 9 = .ok (.iaload, 1) := by decide +kernel
theorem dX13_entry_10 : decode cX13_entry 10 = .ok (.istore_n 3, 1) := by decide +kernel
theorem dX13_entry_11 : decode cX13_entry 11 = .ok (.iload_n 2, 1) := by decide +kernel
theorem dX13_entry_12 : decode cX13_entry 12 = .ok (.ifCond .ne 11, 3) := by decide +kernel
theorem dX13_entry_15 : decode cX13_entry 15 = .ok (.iload_n 3, 1) := by decide +kernel
theorem dX13_entry_16 : decode cX13_entry 16 = .ok (.sipush 360, 3) := by decide +kernel
theorem dX13_entry_19 : decode cX13_entry 19 = .ok (.idiv, 1) := by decide +kernel
theorem dX13_entry_20 : decode cX13_entry 20 = .ok (.goto 36, 3) := by decide +kernel
theorem dX13_entry_23 : decode cX13_entry 23 = .ok (.iload_n 2, 1) := by decide +kernel
theorem dX13_entry_24 : decode cX13_entry 24 = .ok (.iconst 1, 1) := by decide +kernel
theorem dX13_entry_25 : decode cX13_entry 25 = .ok (.if_icmp .ne 13, 3) := by decide +kernel
theorem dX13_entry_28 : decode cX13_entry 28 = .ok (.iload_n 3, 1) := by decide +kernel
theorem dX13_entry_29 : decode cX13_entry 29 = .ok (.bipush 30, 2) := by decide +kernel
theorem dX13_entry_31 : decode cX13_entry 31 = .ok (.idiv, 1) := by decide +kernel
theorem dX13_entry_32 : decode cX13_entry 32 = .ok (.bipush 12, 2) := by decide +kernel
theorem dX13_entry_34 : decode cX13_entry 34 = .ok (.irem, 1) := by decide +kernel
theorem dX13_entry_35 : decode cX13_entry 35 = .ok (.goto 21, 3) := by decide +kernel
theorem dX13_entry_38 : decode cX13_entry 38 = .ok (.iload_n 2, 1) := by decide +kernel
theorem dX13_entry_39 : decode cX13_entry 39 = .ok (.iconst 2, 1) := by decide +kernel
theorem dX13_entry_40 : decode cX13_entry 40 = .ok (.if_icmp .ne 12, 3) := by decide +kernel
theorem dX13_entry_43 : decode cX13_entry 43 = .ok (.iload_n 3, 1) := by decide +kernel
theorem dX13_entry_44 : decode cX13_entry 44 = .ok (.bipush 10, 2) := by decide +kernel
theorem dX13_entry_46 : decode cX13_entry 46 = .ok (.idiv, 1) := by decide +kernel
theorem dX13_entry_47 : decode cX13_entry 47 = .ok (.iconst 3, 1) := by decide +kernel
theorem dX13_entry_48 : decode cX13_entry 48 = .ok (.irem, 1) := by decide +kernel
theorem dX13_entry_49 : decode cX13_entry 49 = .ok (.goto 7, 3) := by decide +kernel
theorem dX13_entry_52 : decode cX13_entry 52 = .ok (.iload_n 3, 1) := by decide +kernel
theorem dX13_entry_53 : decode cX13_entry 53 = .ok (.bipush 10, 2) := by decide +kernel
theorem dX13_entry_55 : decode cX13_entry 55 = .ok (.irem, 1) := by decide +kernel
theorem dX13_entry_56 : decode cX13_entry 56 = .ok (.ireturn, 1) := by decide +kernel
theorem BX13_entry_0 {d bc bs : Nat} {h : aH} {n : Nat} {Q : aQ} {ar0 at3 : Nat} {x1 x2 v8 : Int} {l3 : Option aV} {f1 : List aV} {w6 : List Int} (h2 : h ar0 = cO 13 f1) (g4 : f1[0]? = some (vR (some at3))) (b5 : -2147483648 ≤ 3359 + x1 ∧ 3359 + x1 < 2147483648) (h7 : h at3 = cI w6) (i9 : 0 ≤ 3359 + x1) (g10 : w6[(3359 + x1 : Int).toNat]? = some v8) (kt : x2 ≠ 0 → Rn d bc bs mX13_entry 23 [some (vR (some ar0)), some (vI x1), some (vI x2), some (vI v8)] [] h n Q) (kf : x2 = 0 → Rn d bc bs mX13_entry 15 [some (vR (some ar0)), some (vI x1), some (vI x2), some (vI v8)] [] h n Q) : Rn d (bc) (bs) mX13_entry 0 [some (vR (some ar0)), some (vI x1), some (vI x2), l3] [] h n Q := by
  refine Rn_aload_n dX13_entry_0 rfl rfl rfl ?_
  refine Rn_getfield (ci := 13) (k := 0) dX13_entry_1 rfl in_13 (Nat.le_of_ble_eq_true rfl) wd_1352 rfl h2 g4 ?_
  refine Rn_sipush dX13_entry_4 rfl ?_
  refine Rn_iload_n dX13_entry_7 rfl rfl ?_
  refine Rn_iadd dX13_entry_8 ?_
  rw [w32_id b5.1 b5.2]
  refine Rn_iaload dX13_entry_9 h7 i9 g10 ?_
  refine Rn_istore_n dX13_entry_10 rfl (Nat.le_of_ble_eq_true rfl) rfl rfl ?_
  refine Rn_iload_n dX13_entry_11 rfl rfl ?_
  refine Rn_ifne (tgt := 23) dX13_entry_12 rfl ?_ ?_
  · exact kt
  · exact kf
theorem BX13_entry_15 {d bc bs : Nat} {h : aH} {n : Nat} {Q : aQ} {r0 : Option Nat} {x1 x2 x3 : Int} (b1 : 0 ≤ x3) (b2 : -2147483648 ≤ x3 / 360 ∧ x3 / 360 < 2147483648) (k : Q (some (vI (x3 / 360))) h n) : Rn d (bc) (bs) mX13_entry 15 [some (vR r0), some (vI x1), some (vI x2), some (vI x3)] [] h n Q := by
  refine Rn_iload_n dX13_entry_15 rfl rfl ?_
  refine Rn_sipush dX13_entry_16 rfl ?_
  refine Rn_idiv dX13_entry_19 (by decide) ?_
  rw [Int.tdiv_eq_ediv_of_nonneg b1]
  rw [w32_id b2.1 b2.2]
  refine Rn_goto (tgt := 56) dX13_entry_20 rfl ?_
  exact Rn_ireturn rfl dX13_entry_56 k
theorem BX13_entry_23 {d bc bs : Nat} {h : aH} {n : Nat} {Q : aQ} {r0 : Option Nat} {x1 x2 x3 : Int} (kt : x2 ≠ 1 → Rn d bc bs mX13_entry 38 [some (vR r0), some (vI x1), some (vI x2), some (vI x3)] [] h n Q) (kf : x2 = 1 → Rn d bc bs mX13_entry 28 [some (vR r0), some (vI x1), some (vI x2), some (vI x3)] [] h n Q) : Rn d (bc) (bs) mX13_entry 23 [some (vR r0), some (vI x1), some (vI x2), some (vI x3)] [] h n Q := by
  refine Rn_iload_n dX13_entry_23 rfl rfl ?_
  refine Rn_iconst dX13_entry_24 rfl ?_
  refine Rn_icmpne (tgt := 38) dX13_entry_25 rfl ?_ ?_
  · exact kt
  · exact kf
theorem BX13_entry_28 {d bc bs : Nat} {h : aH} {n : Nat} {Q : aQ} {r0 : Option Nat} {x1 x2 x3 : Int} (b1 : 0 ≤ x3) (b2 : -2147483648 ≤ x3 / 30 ∧ x3 / 30 < 2147483648) (b3 : 0 ≤ (x3 / 30)) (k : Q (some (vI ((x3 / 30) % 12))) h n) : Rn d (bc) (bs) mX13_entry 28 [some (vR r0), some (vI x1), some (vI x2), some (vI x3)] [] h n Q := by
  refine Rn_iload_n dX13_entry_28 rfl rfl ?_
  refine Rn_bipush dX13_entry_29 rfl ?_
  refine Rn_idiv dX13_entry_31 (by decide) ?_
  rw [Int.tdiv_eq_ediv_of_nonneg b1]
  rw [w32_id b2.1 b2.2]
  refine Rn_bipush dX13_entry_32 rfl ?_
  refine Rn_irem dX13_entry_34 (by decide) ?_
  rw [Int.tmod_eq_emod_of_nonneg b3]
  refine Rn_goto (tgt := 56) dX13_entry_35 rfl ?_
  exact Rn_ireturn rfl dX13_entry_56 k
theorem BX13_entry_38 {d bc bs : Nat} {h : aH} {n : Nat} {Q : aQ} {r0 : Option Nat} {x1 x2 x3 : Int} (kt : x2 ≠ 2 → Rn d bc bs mX13_entry 52 [some (vR r0), some (vI x1), some (vI x2), some (vI x3)] [] h n Q) (kf : x2 = 2 → Rn d bc bs mX13_entry 43 [some (vR r0), some (vI x1), some (vI x2), some (vI x3)] [] h n Q) : Rn d (bc) (bs) mX13_entry 38 [some (vR r0), some (vI x1), some (vI x2), some (vI x3)] [] h n Q := by
  refine Rn_iload_n dX13_entry_38 rfl rfl ?_
  refine Rn_iconst dX13_entry_39 rfl ?_
  refine Rn_icmpne (tgt := 52) dX13_entry_40 rfl ?_ ?_
  · exact kt
  · exact kf
theorem BX13_entry_43 {d bc bs : Nat} {h : aH} {n : Nat} {Q : aQ} {r0 : Option Nat} {x1 x2 x3 : Int} (b1 : 0 ≤ x3) (b2 : -2147483648 ≤ x3 / 10 ∧ x3 / 10 < 2147483648) (b3 : 0 ≤ (x3 / 10)) (k : Q (some (vI ((x3 / 10) % 3))) h n) : Rn d (bc) (bs) mX13_entry 43 [some (vR r0), some (vI x1), some (vI x2), some (vI x3)] [] h n Q := by
  refine Rn_iload_n dX13_entry_43 rfl rfl ?_
  refine Rn_bipush dX13_entry_44 rfl ?_
  refine Rn_idiv dX13_entry_46 (by decide) ?_
  rw [Int.tdiv_eq_ediv_of_nonneg b1]
  rw [w32_id b2.1 b2.2]
  refine Rn_iconst dX13_entry_47 rfl ?_
  refine Rn_irem dX13_entry_48 (by decide) ?_
  rw [Int.tmod_eq_emod_of_nonneg b3]
  refine Rn_goto (tgt := 56) dX13_entry_49 rfl ?_
  exact Rn_ireturn rfl dX13_entry_56 k
theorem BX13_entry_52 {d bc bs : Nat} {h : aH} {n : Nat} {Q : aQ} {r0 : Option Nat} {x1 x2 x3 : Int} (b1 : 0 ≤ x3) (k : Q (some (vI (x3 % 10))) h n) : Rn d (bc) (bs) mX13_entry 52 [some (vR r0), some (vI x1), some (vI x2), some (vI x3)] [] h n Q := by
  refine Rn_iload_n dX13_entry_52 rfl rfl ?_
  refine Rn_bipush dX13_entry_53 rfl ?_
  refine Rn_irem dX13_entry_55 (by decide) ?_
  rw [Int.tmod_eq_emod_of_nonneg b1]
  exact Rn_ireturn rfl dX13_entry_56 k
theorem dX13_book_0 : decode cX13_book 0 = .ok (.iload_n 1, 1) := by decide +kernel
theorem dX13_book_1 : decode cX13_book 1 = .ok (.iconst (-1), 1) := by decide +kernel
theorem dX13_book_2 : decode cX13_book 2 = .ok (.if_icmp .ne 11, 3) := by decide +kernel
theorem dX13_book_5 : decode cX13_book 5 = .ok (.aload_n 0, 1) := by decide +kernel
theorem dX13_book_6 : decode cX13_book 6 = .ok (.getfield 7, 3) := by decide +kernel
theorem dX13_book_9 : decode cX13_book 9 = .ok (.bipush 10, 2) := by decide +kernel
theorem dX13_book_11 : decode cX13_book 11 = .ok (.iaload, 1) := by decide +kernel
theorem dX13_book_12 : decode cX13_book 12 = .ok (.ireturn, 1) := by decide +kernel
theorem dX13_book_13 : decode cX13_book 13 = .ok (.iload_n 1, 1) := by decide +kernel
theorem dX13_book_14 : decode cX13_book 14 = .ok (.iconst 0, 1) := by decide +kernel
theorem dX13_book_15 : decode cX13_book 15 = .ok (.aload_n 0, 1) := by decide +kernel
theorem dX13_book_16 : decode cX13_book 16 = .ok (.getfield 7, 3) := by decide +kernel
theorem dX13_book_19 : decode cX13_book 19 = .ok (.bipush 10, 2) := by decide +kernel
theorem dX13_book_21 : decode cX13_book 21 = .ok (.iaload, 1) := by decide +kernel
theorem dX13_book_22 : decode cX13_book 22 = .ok (.iconst 1, 1) := by decide +kernel
theorem dX13_book_23 : decode cX13_book 23 = .ok (.isub, 1) := by decide +kernel
theorem dX13_book_24 : decode cX13_book 24 = .ok (.invokestatic 72, 3) := by decide +kernel
theorem dX13_book_27 : decode cX13_book 27 = .ok (.ifCond .eq 21, 3) := by decide +kernel
theorem dX13_book_30 : decode cX13_book 30 = .ok (.iload_n 2, 1) := by decide +kernel
theorem dX13_book_31 : decode cX13_book 31 = .ok (.iconst 0, 1) := by decide +kernel
theorem dX13_book_32 : decode cX13_book 32 = .ok (.iconst 3, 1) := by decide +kernel
theorem dX13_book_33 : decode cX13_book 33 = .ok (.invokestatic 72, 3) := by decide +kernel
theorem dX13_book_36 : decode cX13_book 36 = .ok (.ifCond .eq 12, 3) := by decide +kernel
theorem dX13_book_39 : decode cX13_book 39 = .ok (.aload_n 0, 1) := by decide +kernel
theorem dX13_book_40 : decode cX13_book 40 = .ok (.iload_n 1, 1) := by decide +kernel
theorem dX13_book_41 : decode cX13_book 41 = .ok (.iload_n 2, 1) := by decide +kernel
theorem dX13_book_42 : decode cX13_book 42 = .ok (.invokevirtual 400, 3) := by decide +kernel
theorem dX13_book_45 : decode cX13_book 45 = .ok (.goto 5, 3) := by decide +kernel
theorem dX13_book_48 : decode cX13_book 48 = .ok (.bipush (-2), 2) := by decide +kernel
theorem dX13_book_50 : decode cX13_book 50 = .ok (.ireturn, 1) := by decide +kernel
theorem BX13_book_0 {d bc bs : Nat} {h : aH} {n : Nat} {Q : aQ} {r0 : Option Nat} {x1 x2 : Int} (kt : x1 ≠ (-1) → Rn d bc bs mX13_book 13 [some (vR r0), some (vI x1), some (vI x2)] [] h n Q) (kf : x1 = (-1) → Rn d bc bs mX13_book 5 [some (vR r0), some (vI x1), some (vI x2)] [] h n Q) : Rn d (bc) (bs) mX13_book 0 [some (vR r0), some (vI x1), some (vI x2)] [] h n Q := by
  refine Rn_iload_n dX13_book_0 rfl rfl ?_
  refine Rn_iconst dX13_book_1 rfl ?_
  refine Rn_icmpne (tgt := 13) dX13_book_2 rfl ?_ ?_
  · exact kt
  · exact kf
theorem BX13_book_5 {d bc bs : Nat} {h : aH} {n : Nat} {Q : aQ} {ar0 at3 : Nat} {x1 x2 v7 : Int} {f1 : List aV} {w5 : List Int} (h2 : h ar0 = cO 13 f1) (g4 : f1[0]? = some (vR (some at3))) (h6 : h at3 = cI w5) (g8 : w5[(10 : Int).toNat]? = some v7) (k : Q (some (vI v7)) h n) : Rn d (bc) (bs) mX13_book 5 [some (vR (some ar0)), some (vI x1), some (vI x2)] [] h n Q := by
  refine Rn_aload_n dX13_book_5 rfl rfl rfl ?_
  refine Rn_getfield (ci := 13) (k := 0) dX13_book_6 rfl in_13 (Nat.le_of_ble_eq_true rfl) wd_1352 rfl h2 g4 ?_
  refine Rn_bipush dX13_book_9 rfl ?_
  refine Rn_iaload dX13_book_11 h6 (by decide) g8 ?_
  exact Rn_ireturn rfl dX13_book_12 k
theorem BX13_book_13 {d bc bs : Nat} {h : aH} {n : Nat} {Q : aQ} {ar0 at3 : Nat} {x1 x2 v7 : Int} {f1 : List aV} {w5 : List Int} (h2 : h ar0 = cO 13 f1) (g4 : f1[0]? = some (vR (some at3))) (h6 : h at3 = cI w5) (g8 : w5[(10 : Int).toNat]? = some v7) (b9 : -2147483648 ≤ v7 - 1 ∧ v7 - 1 < 2147483648) (k : Rn d 0 0 mX13_isIn 0 [some (vI x1), some (vI 0), some (vI (v7 - 1))] [] h n (fun v h1 n1 => Rn (d + 1) bc bs mX13_book 27 [some (vR (some ar0)), some (vI x1), some (vI x2)] (v.toList ++ []) h1 n1 Q)) : Rn (d + 1) (bc) (bs) mX13_book 13 [some (vR (some ar0)), some (vI x1), some (vI x2)] [] h n Q := by
  refine Rn_iload_n dX13_book_13 rfl rfl ?_
  refine Rn_iconst dX13_book_14 rfl ?_
  refine Rn_aload_n dX13_book_15 rfl rfl rfl ?_
  refine Rn_getfield (ci := 13) (k := 0) dX13_book_16 rfl in_13 (Nat.le_of_ble_eq_true rfl) wd_1352 rfl h2 g4 ?_
  refine Rn_bipush dX13_book_19 rfl ?_
  refine Rn_iaload dX13_book_21 h6 (by decide) g8 ?_
  refine Rn_iconst dX13_book_22 rfl ?_
  refine Rn_isub dX13_book_23 ?_
  rw [w32_id b9.1 b9.2]
  exact Rn_callS (avs := [vI x1, vI 0, vI (v7 - 1)]) (st := []) (bc1 := 0) (bs1 := 0) (bc2 := bc) (bs2 := bs) fx_X13_isIn dX13_book_24 (Or.inl wd_1463) wd_1464 rfl (Nat.le_of_ble_eq_true rfl) (Nat.le_of_ble_eq_true rfl) (by omega) (by omega) (ls1 := [some (vI x1), some (vI 0), some (vI (v7 - 1))]) rfl k
theorem BX13_book_27 {d bc bs : Nat} {h : aH} {n : Nat} {Q : aQ} {r0 : Option Nat} {x1 x2 s0 : Int} (kt : s0 = 0 → Rn d bc bs mX13_book 48 [some (vR r0), some (vI x1), some (vI x2)] [] h n Q) (kf : s0 ≠ 0 → Rn d bc bs mX13_book 30 [some (vR r0), some (vI x1), some (vI x2)] [] h n Q) : Rn d (bc) (bs) mX13_book 27 [some (vR r0), some (vI x1), some (vI x2)] [vI s0] h n Q := by
  refine Rn_ifeq (tgt := 48) dX13_book_27 rfl ?_ ?_
  · exact kt
  · exact kf
theorem BX13_book_30 {d bc bs : Nat} {h : aH} {n : Nat} {Q : aQ} {r0 : Option Nat} {x1 x2 : Int} (k : Rn d 0 0 mX13_isIn 0 [some (vI x2), some (vI 0), some (vI 3)] [] h n (fun v h1 n1 => Rn (d + 1) bc bs mX13_book 36 [some (vR r0), some (vI x1), some (vI x2)] (v.toList ++ []) h1 n1 Q)) : Rn (d + 1) (bc) (bs) mX13_book 30 [some (vR r0), some (vI x1), some (vI x2)] [] h n Q := by
  refine Rn_iload_n dX13_book_30 rfl rfl ?_
  refine Rn_iconst dX13_book_31 rfl ?_
  refine Rn_iconst dX13_book_32 rfl ?_
  exact Rn_callS (avs := [vI x2, vI 0, vI 3]) (st := []) (bc1 := 0) (bs1 := 0) (bc2 := bc) (bs2 := bs) fx_X13_isIn dX13_book_33 (Or.inl wd_1463) wd_1464 rfl (Nat.le_of_ble_eq_true rfl) (Nat.le_of_ble_eq_true rfl) (by omega) (by omega) (ls1 := [some (vI x2), some (vI 0), some (vI 3)]) rfl k
theorem BX13_book_36 {d bc bs : Nat} {h : aH} {n : Nat} {Q : aQ} {r0 : Option Nat} {x1 x2 s0 : Int} (kt : s0 = 0 → Rn d bc bs mX13_book 48 [some (vR r0), some (vI x1), some (vI x2)] [] h n Q) (kf : s0 ≠ 0 → Rn d bc bs mX13_book 39 [some (vR r0), some (vI x1), some (vI x2)] [] h n Q) : Rn d (bc) (bs) mX13_book 36 [some (vR r0), some (vI x1), some (vI x2)] [vI s0] h n Q := by
  refine Rn_ifeq (tgt := 48) dX13_book_36 rfl ?_ ?_
  · exact kt
  · exact kf
theorem BX13_book_39 {d bc bs : Nat} {h : aH} {n : Nat} {Q : aQ} {ar0 : Nat} {x1 x2 : Int} {f1 : List aV} (h2 : h ar0 = cO 13 f1) (k : Rn d 0 0 mX13_entry 0 [some (vR (some ar0)), some (vI x1), some (vI x2), none] [] h n (fun v h1 n1 => Rn (d + 1) bc bs mX13_book 45 [some (vR (some ar0)), some (vI x1), some (vI x2)] (v.toList ++ []) h1 n1 Q)) : Rn (d + 1) (bc) (bs) mX13_book 39 [some (vR (some ar0)), some (vI x1), some (vI x2)] [] h n Q := by
  refine Rn_aload_n dX13_book_39 rfl rfl rfl ?_
  refine Rn_iload_n dX13_book_40 rfl rfl ?_
  refine Rn_iload_n dX13_book_41 rfl rfl ?_
  exact Rn_callV (ci := 13) (avs := [vI x1, vI x2]) (st := []) (bc1 := 0) (bs1 := 0) (bc2 := bc) (bs2 := bs) fx_X13_entry dX13_book_42 wd_1834 wd_1836 wd_104 rfl h2 rfl (Nat.le_of_ble_eq_true rfl) (Nat.le_of_ble_eq_true rfl) (by omega) (by omega) (ls1 := [some (vR (some ar0)), some (vI x1), some (vI x2), none]) rfl k
theorem BX13_book_45 {d bc bs : Nat} {h : aH} {n : Nat} {Q : aQ} {r0 : Option Nat} {x1 x2 s0 : Int} (k : Q (some (vI s0)) h n) : Rn d (bc) (bs) mX13_book 45 [some (vR r0), some (vI x1), some (vI x2)] [vI s0] h n Q := by
  refine Rn_goto (tgt := 50) dX13_book_45 rfl ?_
  exact Rn_ireturn rfl dX13_book_50 k
theorem BX13_book_48 {d bc bs : Nat} {h : aH} {n : Nat} {Q : aQ} {r0 : Option Nat} {x1 x2 : Int} (k : Q (some (vI (-2))) h n) : Rn d (bc) (bs) mX13_book 48 [some (vR r0), some (vI x1), some (vI x2)] [] h n Q := by
  refine Rn_bipush dX13_book_48 rfl ?_
  exact Rn_ireturn rfl dX13_book_50 k
theorem dX13_ledger_0 : decode cX13_ledger 0 = .ok (.iload_n 1, 1) := by decide +kernel
theorem dX13_ledger_1 : decode cX13_ledger 1 = .ok (.iconst 0, 1) := by decide +kernel
theorem dX13_ledger_2 : decode cX13_ledger 2 = .ok (.iconst 2, 1) := by decide +kernel
theorem dX13_ledger_3 : decode cX13_ledger 3 = .ok (.invokestatic 72, 3) := by decide +kernel
theorem dX13_ledger_6 : decode cX13_ledger 6 = .ok (.ifCond .ne 6, 3) := by decide +kernel
theorem dX13_ledger_9 : decode cX13_ledger 9 = .ok (.bipush (-2), 2) := by decide +kernel
theorem dX13_ledger_11 : decode cX13_ledger 11 = .ok (.ireturn, 1) := by decide +kernel
theorem dX13_ledger_12 : decode cX13_ledger 12 = .ok (.iconst 0, 1) := by decide +kernel
theorem dX13_ledger_13 : decode cX13_ledger 13 = .ok (.istore_n 2, 1) := by decide +kernel
theorem dX13_ledger_14 : decode cX13_ledger 14 = .ok (.iconst 0, 1) := by decide +kernel
theorem dX13_ledger_15 : decode cX13_ledger 15 = .ok (.istore_n 3, 1) := by decide +kernel
theorem dX13_ledger_16 : decode cX13_ledger 16 = .ok (.iload_n 3, 1) := by decide +kernel
theorem dX13_ledger_17 : decode cX13_ledger 17 = .ok (.aload_n 0, 1) := by decide +kernel
theorem dX13_ledger_18 : decode cX13_ledger 18 = .ok (.getfield 7, 3) := by decide +kernel
theorem dX13_ledger_21 : decode cX13_ledger 21 = .ok (.bipush 10, 2) := by decide +kernel
theorem dX13_ledger_23 : decode cX13_ledger 23 = .ok (.iaload, 1) := by decide +kernel
theorem dX13_ledger_24 : decode cX13_ledger 24 = .ok (.if_icmp .ge 27, 3) := by decide +kernel
theorem dX13_ledger_27 : decode cX13_ledger 27 = .ok (.iload_n 2, 1) := by decide +kernel
theorem dX13_ledger_28 : decode cX13_ledger 28 = .ok (.aload_n 0, 1) := by decide +kernel
theorem dX13_ledger_29 : decode cX13_ledger 29 = .ok (.iload_n 3, 1) := by decide +kernel
theorem dX13_ledger_30 : decode cX13_ledger 30 = .ok (.iconst 2, 1) := by decide +kernel
theorem dX13_ledger_31 : decode cX13_ledger 31 = .ok (.invokevirtual 400, 3) := by decide +kernel
theorem dX13_ledger_34 : decode cX13_ledger 34 = .ok (.iload_n 1, 1) := by decide +kernel
theorem dX13_ledger_35 : decode cX13_ledger 35 = .ok (.if_icmp .ne 7, 3) := by decide +kernel
theorem dX13_ledger_38 : decode cX13_ledger 38 = .ok (.iconst 1, 1) := by decide +kernel
theorem dX13_ledger_39 : decode cX13_ledger 39 = .ok (.goto 4, 3) := by decide +kernel
theorem dX13_ledger_42 : decode cX13_ledger 42 = .ok (.iconst 0, 1) := by decide +kernel
theorem dX13_ledger_43 : decode cX13_ledger 43 = .ok (.iadd, 1) := by decide +kernel
theorem dX13_ledger_44 : decode cX13_ledger 44 = .ok (.istore_n 2, 1) := by decide +kernel
theorem dX13_ledger_45 : decode cX13_ledger 45 = .ok (.iinc 3 1, 3) := by decide +kernel
theorem dX13_ledger_48 : decode cX13_ledger 48 = .ok (.goto (-32), 3) := by decide +kernel
theorem dX13_ledger_51 : decode cX13_ledger 51 = .ok (.iload_n 2, 1) := by decide +kernel
theorem dX13_ledger_52 : decode cX13_ledger 52 = .ok (.ireturn, 1) := by decide +kernel
theorem BX13_ledger_0 {d bc bs : Nat} {h : aH} {n : Nat} {Q : aQ} {r0 : Option Nat} {x1 : Int} {l2 l3 : Option aV} (k : Rn d 0 0 mX13_isIn 0 [some (vI x1), some (vI 0), some (vI 2)] [] h n (fun v h1 n1 => Rn (d + 1) bc bs mX13_ledger 6 [some (vR r0), some (vI x1), l2, l3] (v.toList ++ []) h1 n1 Q)) : Rn (d + 1) (bc) (bs) mX13_ledger 0 [some (vR r0), some (vI x1), l2, l3] [] h n Q := by
  refine Rn_iload_n dX13_ledger_0 rfl rfl ?_
  refine Rn_iconst dX13_ledger_1 rfl ?_
  refine Rn_iconst dX13_ledger_2 rfl ?_
  exact Rn_callS (avs := [vI x1, vI 0, vI 2]) (st := []) (bc1 := 0) (bs1 := 0) (bc2 := bc) (bs2 := bs) fx_X13_isIn dX13_ledger_3 (Or.inl wd_1463) wd_1464 rfl (Nat.le_of_ble_eq_true rfl) (Nat.le_of_ble_eq_true rfl) (by omega) (by omega) (ls1 := [some (vI x1), some (vI 0), some (vI 2)]) rfl k
theorem BX13_ledger_6 {d bc bs : Nat} {h : aH} {n : Nat} {Q : aQ} {r0 : Option Nat} {x1 s0 : Int} {l2 l3 : Option aV} (kt : s0 ≠ 0 → Rn d bc bs mX13_ledger 12 [some (vR r0), some (vI x1), l2, l3] [] h n Q) (kf : s0 = 0 → Rn d bc bs mX13_ledger 9 [some (vR r0), some (vI x1), l2, l3] [] h n Q) : Rn d (bc) (bs) mX13_ledger 6 [some (vR r0), some (vI x1), l2, l3] [vI s0] h n Q := by
  refine Rn_ifne (tgt := 12) dX13_ledger_6 rfl ?_ ?_
  · exact kt
  · exact kf
theorem BX13_ledger_9 {d bc bs : Nat} {h : aH} {n : Nat} {Q : aQ} {r0 : Option Nat} {x1 : Int} {l2 l3 : Option aV} (k : Q (some (vI (-2))) h n) : Rn d (bc) (bs) mX13_ledger 9 [some (vR r0), some (vI x1), l2, l3] [] h n Q := by
  refine Rn_bipush dX13_ledger_9 rfl ?_
  exact Rn_ireturn rfl dX13_ledger_11 k
theorem BX13_ledger_12 {d bc bs : Nat} {h : aH} {n : Nat} {Q : aQ} {r0 : Option Nat} {x1 : Int} {l2 l3 : Option aV} (k : Rn d bc bs mX13_ledger 16 [some (vR r0), some (vI x1), some (vI 0), some (vI 0)] [] h n Q) : Rn d (bc) (bs) mX13_ledger 12 [some (vR r0), some (vI x1), l2, l3] [] h n Q := by
  refine Rn_iconst dX13_ledger_12 rfl ?_
  refine Rn_istore_n dX13_ledger_13 rfl (Nat.le_of_ble_eq_true rfl) rfl rfl ?_
  refine Rn_iconst dX13_ledger_14 rfl ?_
  refine Rn_istore_n dX13_ledger_15 rfl (Nat.le_of_ble_eq_true rfl) rfl rfl ?_
  exact k
theorem BX13_ledger_16 {d bc bs : Nat} {h : aH} {n : Nat} {Q : aQ} {ar0 at3 : Nat} {x1 x2 x3 v7 : Int} {f1 : List aV} {w5 : List Int} (h2 : h ar0 = cO 13 f1) (g4 : f1[0]? = some (vR (some at3))) (h6 : h at3 = cI w5) (g8 : w5[(10 : Int).toNat]? = some v7) (kt : v7 ≤ x3 → Rn d bc bs mX13_ledger 51 [some (vR (some ar0)), some (vI x1), some (vI x2), some (vI x3)] [] h n Q) (kf : x3 < v7 → Rn d bc bs mX13_ledger 27 [some (vR (some ar0)), some (vI x1), some (vI x2), some (vI x3)] [] h n Q) : Rn d (bc) (bs) mX13_ledger 16 [some (vR (some ar0)), some (vI x1), some (vI x2), some (vI x3)] [] h n Q := by
  refine Rn_iload_n dX13_ledger_16 rfl rfl ?_
  refine Rn_aload_n dX13_ledger_17 rfl rfl rfl ?_
  refine Rn_getfield (ci := 13) (k := 0) dX13_ledger_18 rfl in_13 (Nat.le_of_ble_eq_true rfl) wd_1352 rfl h2 g4 ?_
  refine Rn_bipush dX13_ledger_21 rfl ?_
  refine Rn_iaload dX13_ledger_23 h6 (by decide) g8 ?_
  refine Rn_icmpge (tgt := 51) dX13_ledger_24 rfl ?_ ?_
  · exact kt
  · exact kf
theorem BX13_ledger_27 {d bc bs : Nat} {h : aH} {n : Nat} {Q : aQ} {ar0 : Nat} {x1 x2 x3 : Int} {f1 : List aV} (h2 : h ar0 = cO 13 f1) (k : Rn d 0 0 mX13_entry 0 [some (vR (some ar0)), some (vI x3), some (vI 2), none] [] h n (fun v h1 n1 => Rn (d + 1) bc bs mX13_ledger 34 [some (vR (some ar0)), some (vI x1), some (vI x2), some (vI x3)] (v.toList ++ [vI x2]) h1 n1 Q)) : Rn (d + 1) (bc) (bs) mX13_ledger 27 [some (vR (some ar0)), some (vI x1), some (vI x2), some (vI x3)] [] h n Q := by
  refine Rn_iload_n dX13_ledger_27 rfl rfl ?_
  refine Rn_aload_n dX13_ledger_28 rfl rfl rfl ?_
  refine Rn_iload_n dX13_ledger_29 rfl rfl ?_
  refine Rn_iconst dX13_ledger_30 rfl ?_
  exact Rn_callV (ci := 13) (avs := [vI x3, vI 2]) (st := [vI x2]) (bc1 := 0) (bs1 := 0) (bc2 := bc) (bs2 := bs) fx_X13_entry dX13_ledger_31 wd_1834 wd_1836 wd_104 rfl h2 rfl (Nat.le_of_ble_eq_true rfl) (Nat.le_of_ble_eq_true rfl) (by omega) (by omega) (ls1 := [some (vR (some ar0)), some (vI x3), some (vI 2), none]) rfl k
theorem BX13_ledger_34 {d bc bs : Nat} {h : aH} {n : Nat} {Q : aQ} {r0 : Option Nat} {x1 x2 x3 s0 s1 : Int} (kt : s1 ≠ x1 → Rn d bc bs mX13_ledger 42 [some (vR r0), some (vI x1), some (vI x2), some (vI x3)] [vI s0] h n Q) (kf : s1 = x1 → Rn d bc bs mX13_ledger 38 [some (vR r0), some (vI x1), some (vI x2), some (vI x3)] [vI s0] h n Q) : Rn d (bc) (bs) mX13_ledger 34 [some (vR r0), some (vI x1), some (vI x2), some (vI x3)] [vI s1, vI s0] h n Q := by
  refine Rn_iload_n dX13_ledger_34 rfl rfl ?_
  refine Rn_icmpne (tgt := 42) dX13_ledger_35 rfl ?_ ?_
  · exact kt
  · exact kf
theorem BX13_ledger_38 {d bc bs : Nat} {h : aH} {n : Nat} {Q : aQ} {r0 : Option Nat} {x1 x2 x3 s0 : Int} (b1 : -2147483648 ≤ s0 + 1 ∧ s0 + 1 < 2147483648) (b2 : -2147483648 ≤ x3 + 1 ∧ x3 + 1 < 2147483648) (k : Rn d bc bs mX13_ledger 16 [some (vR r0), some (vI x1), some (vI (s0 + 1)), some (vI (x3 + 1))] [] h n Q) : Rn d (bc) (bs) mX13_ledger 38 [some (vR r0), some (vI x1), some (vI x2), some (vI x3)] [vI s0] h n Q := by
  refine Rn_iconst dX13_ledger_38 rfl ?_
  refine Rn_goto (tgt := 43) dX13_ledger_39 rfl ?_
  refine Rn_iadd dX13_ledger_43 ?_
  rw [w32_id b1.1 b1.2]
  refine Rn_istore_n dX13_ledger_44 rfl (Nat.le_of_ble_eq_true rfl) rfl rfl ?_
  refine Rn_iinc dX13_ledger_45 rfl (Nat.le_of_ble_eq_true rfl) rfl rfl rfl ?_
  rw [w32_id b2.1 b2.2]
  refine Rn_goto (tgt := 16) dX13_ledger_48 rfl ?_
  exact k
theorem BX13_ledger_42 {d bc bs : Nat} {h : aH} {n : Nat} {Q : aQ} {r0 : Option Nat} {x1 x2 x3 s0 : Int} (b1 : -2147483648 ≤ s0 + 0 ∧ s0 + 0 < 2147483648) (b2 : -2147483648 ≤ x3 + 1 ∧ x3 + 1 < 2147483648) (k : Rn d bc bs mX13_ledger 16 [some (vR r0), some (vI x1), some (vI (s0 + 0)), some (vI (x3 + 1))] [] h n Q) : Rn d (bc) (bs) mX13_ledger 42 [some (vR r0), some (vI x1), some (vI x2), some (vI x3)] [vI s0] h n Q := by
  refine Rn_iconst dX13_ledger_42 rfl ?_
  refine Rn_iadd dX13_ledger_43 ?_
  rw [w32_id b1.1 b1.2]
  refine Rn_istore_n dX13_ledger_44 rfl (Nat.le_of_ble_eq_true rfl) rfl rfl ?_
  refine Rn_iinc dX13_ledger_45 rfl (Nat.le_of_ble_eq_true rfl) rfl rfl rfl ?_
  rw [w32_id b2.1 b2.2]
  refine Rn_goto (tgt := 16) dX13_ledger_48 rfl ?_
  exact k
theorem BX13_ledger_51 {d bc bs : Nat} {h : aH} {n : Nat} {Q : aQ} {r0 : Option Nat} {x1 x2 x3 : Int} (k : Q (some (vI x2)) h n) : Rn d (bc) (bs) mX13_ledger 51 [some (vR r0), some (vI x1), some (vI x2), some (vI x3)] [] h n Q := by
  refine Rn_iload_n dX13_ledger_51 rfl rfl ?_
  exact Rn_ireturn rfl dX13_ledger_52 k
theorem dX13_luckiest_0 : decode cX13_luckiest 0 = .ok (.iconst (-1), 1) := by decide +kernel
theorem dX13_luckiest_1 : decode cX13_luckiest 1 = .ok (.istore_n 1, 1) := by decide +kernel
theorem dX13_luckiest_2 : decode cX13_luckiest 2 = .ok (.iconst 0, 1) := by decide +kernel
theorem dX13_luckiest_3 : decode cX13_luckiest 3 = .ok (.istore_n 2, 1) := by decide +kernel
theorem dX13_luckiest_4 : decode cX13_luckiest 4 = .ok (.iload_n 2, 1) := by decide +kernel
theorem dX13_luckiest_5 : decode cX13_luckiest 5 = .ok (.aload_n 0, 1) := by decide +kernel
theorem dX13_luckiest_6 : decode cX13_luckiest 6 = .ok (.getfield 7, 3) := by decide +kernel
theorem dX13_luckiest_9 : decode cX13_luckiest 9 = .ok (.iconst 0, 1) := by decide +kernel
theorem dX13_luckiest_10 : decode cX13_luckiest 10 = .ok (.iaload, 1) := by decide +kernel
theorem dX13_luckiest_11 : decode cX13_luckiest 11 = .ok (.if_icmp .ge 33, 3) := by decide +kernel
theorem dX13_luckiest_14 : decode cX13_luckiest 14 = .ok (.aload_n 0, 1) := by decide +kernel
theorem dX13_luckiest_15 : decode cX13_luckiest 15 = .ok (.iload_n 2, 1) := by decide +kernel
theorem dX13_luckiest_16 : decode cX13_luckiest 16 = .ok (.invokevirtual 394, 3) := by decide +kernel
theorem dX13_luckiest_19 : decode cX13_luckiest 19 = .ok (.iload_n 1, 1) := by decide +kernel
theorem dX13_luckiest_20 : decode cX13_luckiest 20 = .ok (.iconst (-1), 1) := by decide +kernel
theorem dX13_luckiest_21 : decode cX13_luckiest 21 = .ok (.if_icmp .ne 7, 3) := by decide +kernel
theorem dX13_luckiest_24 : decode cX13_luckiest 24 = .ok (.iconst 0, 1) := by decide +kernel
theorem dX13_luckiest_25 : decode cX13_luckiest 25 = .ok (.goto 8, 3) := by decide +kernel
theorem dX13_luckiest_28 : decode cX13_luckiest 28 = .ok (.aload_n 0, 1) := by decide +kernel
theorem dX13_luckiest_29 : decode cX13_luckiest 29 = .ok (.iload_n 1, 1) := by decide +kernel
theorem dX13_luckiest_30 : decode cX13_luckiest 30 = .ok (.invokevirtual 394, 3) := by decide +kernel
theorem dX13_luckiest_33 : decode cX13_luckiest 33 = .ok (.if_icmp .le 5, 3) := by decide +kernel
theorem dX13_luckiest_36 : decode cX13_luckiest 36 = .ok (.iload_n 2, 1) := by decide +kernel
theorem dX13_luckiest_37 : decode cX13_luckiest 37 = .ok (.istore_n 1, 1) := by decide +kernel
theorem dX13_luckiest_38 : decode cX13_luckiest 38 = .ok (.iinc 2 1, 3) := by decide +kernel
theorem dX13_luckiest_41 : decode cX13_luckiest 41 = .ok (.goto (-37), 3) := by decide +kernel
theorem dX13_luckiest_44 : decode cX13_luckiest 44 = .ok (.iload_n 1, 1) := by decide +kernel
theorem dX13_luckiest_45 : decode cX13_luckiest 45 = .ok (.ireturn, 1) := by decide +kernel
theorem BX13_luckiest_0 {d bc bs : Nat} {h : aH} {n : Nat} {Q : aQ} {r0 : Option Nat} {l1 l2 : Option aV} (k : Rn d bc bs mX13_luckiest 4 [some (vR r0), some (vI (-1)), some (vI 0)] [] h n Q) : Rn d (bc) (bs) mX13_luckiest 0 [some (vR r0), l1, l2] [] h n Q := by
  refine Rn_iconst dX13_luckiest_0 rfl ?_
  refine Rn_istore_n dX13_luckiest_1 rfl (Nat.le_of_ble_eq_true rfl) rfl rfl ?_
  refine Rn_iconst dX13_luckiest_2 rfl ?_
  refine Rn_istore_n dX13_luckiest_3 rfl (Nat.le_of_ble_eq_true rfl) rfl rfl ?_
  exact k
theorem BX13_luckiest_4 {d bc bs : Nat} {h : aH} {n : Nat} {Q : aQ} {ar0 at3 : Nat} {x1 x2 v7 : Int} {f1 : List aV} {w5 : List Int} (h2 : h ar0 = cO 13 f1) (g4 : f1[0]? = some (vR (some at3))) (h6 : h at3 = cI w5) (g8 : w5[(0 : Int).toNat]? = some v7) (kt : v7 ≤ x2 → Rn d bc bs mX13_luckiest 44 [some (vR (some ar0)), some (vI x1), some (vI x2)] [] h n Q) (kf : x2 < v7 → Rn d bc bs mX13_luckiest 14 [some (vR (some ar0)), some (vI x1), some (vI x2)] [] h n Q) : Rn d (bc) (bs) mX13_luckiest 4 [some (vR (some ar0)), some (vI x1), some (vI x2)] [] h n Q := by
  refine Rn_iload_n dX13_luckiest_4 rfl rfl ?_
  refine Rn_aload_n dX13_luckiest_5 rfl rfl rfl ?_
  refine Rn_getfield (ci := 13) (k := 0) dX13_luckiest_6 rfl in_13 (Nat.le_of_ble_eq_true rfl) wd_1352 rfl h2 g4 ?_
  refine Rn_iconst dX13_luckiest_9 rfl ?_
  refine Rn_iaload dX13_luckiest_10 h6 (by decide) g8 ?_
  refine Rn_icmpge (tgt := 44) dX13_luckiest_11 rfl ?_ ?_
  · exact kt
  · exact kf
theorem BX13_luckiest_14 {d bc bs : Nat} {h : aH} {n : Nat} {Q : aQ} {ar0 : Nat} {x1 x2 : Int} {f1 : List aV} (h2 : h ar0 = cO 13 f1) (k : Rn d 0 0 mX13_cameTo 0 [some (vR (some ar0)), some (vI x2), none, none] [] h n (fun v h1 n1 => Rn (d + 1) bc bs mX13_luckiest 19 [some (vR (some ar0)), some (vI x1), some (vI x2)] (v.toList ++ []) h1 n1 Q)) : Rn (d + 1) (bc) (bs) mX13_luckiest 14 [some (vR (some ar0)), some (vI x1), some (vI x2)] [] h n Q := by
  refine Rn_aload_n dX13_luckiest_14 rfl rfl rfl ?_
  refine Rn_iload_n dX13_luckiest_15 rfl rfl ?_
  exact Rn_callV (ci := 13) (avs := [vI x2]) (st := []) (bc1 := 0) (bs1 := 0) (bc2 := bc) (bs2 := bs) fx_X13_cameTo dX13_luckiest_16 wd_1810 wd_1812 wd_102 rfl h2 rfl (Nat.le_of_ble_eq_true rfl) (Nat.le_of_ble_eq_true rfl) (by omega) (by omega) (ls1 := [some (vR (some ar0)), some (vI x2), none, none]) rfl k
theorem BX13_luckiest_19 {d bc bs : Nat} {h : aH} {n : Nat} {Q : aQ} {r0 : Option Nat} {x1 x2 s0 : Int} (kt : x1 ≠ (-1) → Rn d bc bs mX13_luckiest 28 [some (vR r0), some (vI x1), some (vI x2)] [vI s0] h n Q) (kf : x1 = (-1) → Rn d bc bs mX13_luckiest 24 [some (vR r0), some (vI x1), some (vI x2)] [vI s0] h n Q) : Rn d (bc) (bs) mX13_luckiest 19 [some (vR r0), some (vI x1), some (vI x2)] [vI s0] h n Q := by
  refine Rn_iload_n dX13_luckiest_19 rfl rfl ?_
  refine Rn_iconst dX13_luckiest_20 rfl ?_
  refine Rn_icmpne (tgt := 28) dX13_luckiest_21 rfl ?_ ?_
  · exact kt
  · exact kf
theorem BX13_luckiest_24 {d bc bs : Nat} {h : aH} {n : Nat} {Q : aQ} {r0 : Option Nat} {x1 x2 s0 : Int} (kt : s0 ≤ 0 → Rn d bc bs mX13_luckiest 38 [some (vR r0), some (vI x1), some (vI x2)] [] h n Q) (kf : 0 < s0 → Rn d bc bs mX13_luckiest 36 [some (vR r0), some (vI x1), some (vI x2)] [] h n Q) : Rn d (bc) (bs) mX13_luckiest 24 [some (vR r0), some (vI x1), some (vI x2)] [vI s0] h n Q := by
  refine Rn_iconst dX13_luckiest_24 rfl ?_
  refine Rn_goto (tgt := 33) dX13_luckiest_25 rfl ?_
  refine Rn_icmple (tgt := 38) dX13_luckiest_33 rfl ?_ ?_
  · exact kt
  · exact kf
theorem BX13_luckiest_28 {d bc bs : Nat} {h : aH} {n : Nat} {Q : aQ} {ar0 : Nat} {x1 x2 s0 : Int} {f1 : List aV} (h2 : h ar0 = cO 13 f1) (k : Rn d 0 0 mX13_cameTo 0 [some (vR (some ar0)), some (vI x1), none, none] [] h n (fun v h1 n1 => Rn (d + 1) bc bs mX13_luckiest 33 [some (vR (some ar0)), some (vI x1), some (vI x2)] (v.toList ++ [vI s0]) h1 n1 Q)) : Rn (d + 1) (bc) (bs) mX13_luckiest 28 [some (vR (some ar0)), some (vI x1), some (vI x2)] [vI s0] h n Q := by
  refine Rn_aload_n dX13_luckiest_28 rfl rfl rfl ?_
  refine Rn_iload_n dX13_luckiest_29 rfl rfl ?_
  exact Rn_callV (ci := 13) (avs := [vI x1]) (st := [vI s0]) (bc1 := 0) (bs1 := 0) (bc2 := bc) (bs2 := bs) fx_X13_cameTo dX13_luckiest_30 wd_1810 wd_1812 wd_102 rfl h2 rfl (Nat.le_of_ble_eq_true rfl) (Nat.le_of_ble_eq_true rfl) (by omega) (by omega) (ls1 := [some (vR (some ar0)), some (vI x1), none, none]) rfl k
theorem BX13_luckiest_33 {d bc bs : Nat} {h : aH} {n : Nat} {Q : aQ} {r0 : Option Nat} {x1 x2 s0 s1 : Int} (kt : s0 ≤ s1 → Rn d bc bs mX13_luckiest 38 [some (vR r0), some (vI x1), some (vI x2)] [] h n Q) (kf : s1 < s0 → Rn d bc bs mX13_luckiest 36 [some (vR r0), some (vI x1), some (vI x2)] [] h n Q) : Rn d (bc) (bs) mX13_luckiest 33 [some (vR r0), some (vI x1), some (vI x2)] [vI s1, vI s0] h n Q := by
  refine Rn_icmple (tgt := 38) dX13_luckiest_33 rfl ?_ ?_
  · exact kt
  · exact kf
theorem BX13_luckiest_36 {d bc bs : Nat} {h : aH} {n : Nat} {Q : aQ} {r0 : Option Nat} {x1 x2 : Int} (b1 : -2147483648 ≤ x2 + 1 ∧ x2 + 1 < 2147483648) (k : Rn d bc bs mX13_luckiest 4 [some (vR r0), some (vI x2), some (vI (x2 + 1))] [] h n Q) : Rn d (bc) (bs) mX13_luckiest 36 [some (vR r0), some (vI x1), some (vI x2)] [] h n Q := by
  refine Rn_iload_n dX13_luckiest_36 rfl rfl ?_
  refine Rn_istore_n dX13_luckiest_37 rfl (Nat.le_of_ble_eq_true rfl) rfl rfl ?_
  refine Rn_iinc dX13_luckiest_38 rfl (Nat.le_of_ble_eq_true rfl) rfl rfl rfl ?_
  rw [w32_id b1.1 b1.2]
  refine Rn_goto (tgt := 4) dX13_luckiest_41 rfl ?_
  exact k
theorem BX13_luckiest_38 {d bc bs : Nat} {h : aH} {n : Nat} {Q : aQ} {r0 : Option Nat} {x1 x2 : Int} (b1 : -2147483648 ≤ x2 + 1 ∧ x2 + 1 < 2147483648) (k : Rn d bc bs mX13_luckiest 4 [some (vR r0), some (vI x1), some (vI (x2 + 1))] [] h n Q) : Rn d (bc) (bs) mX13_luckiest 38 [some (vR r0), some (vI x1), some (vI x2)] [] h n Q := by
  refine Rn_iinc dX13_luckiest_38 rfl (Nat.le_of_ble_eq_true rfl) rfl rfl rfl ?_
  rw [w32_id b1.1 b1.2]
  refine Rn_goto (tgt := 4) dX13_luckiest_41 rfl ?_
  exact k
theorem BX13_luckiest_44 {d bc bs : Nat} {h : aH} {n : Nat} {Q : aQ} {r0 : Option Nat} {x1 x2 : Int} (k : Q (some (vI x1)) h n) : Rn d (bc) (bs) mX13_luckiest 44 [some (vR r0), some (vI x1), some (vI x2)] [] h n Q := by
  refine Rn_iload_n dX13_luckiest_44 rfl rfl ?_
  exact Rn_ireturn rfl dX13_luckiest_45 k
theorem dX13_eldest_0 : decode cX13_eldest 0 = .ok (.iconst (-1), 1) := by decide +kernel
theorem dX13_eldest_1 : decode cX13_eldest 1 = .ok (.istore_n 1, 1) := by decide +kernel
theorem dX13_eldest_2 : decode cX13_eldest 2 = .ok (.iconst 0, 1) := by decide +kernel
theorem dX13_eldest_3 : decode cX13_eldest 3 = .ok (.istore_n 2, 1) := by decide +kernel
theorem dX13_eldest_4 : decode cX13_eldest 4 = .ok (.iload_n 2, 1) := by decide +kernel
theorem dX13_eldest_5 : decode cX13_eldest 5 = .ok (.aload_n 0, 1) := by decide +kernel
theorem dX13_eldest_6 : decode cX13_eldest 6 = .ok (.getfield 7, 3) := by decide +kernel
theorem dX13_eldest_9 : decode cX13_eldest 9 = .ok (.bipush 9, 2) := by decide +kernel
theorem dX13_eldest_11 : decode cX13_eldest 11 = .ok (.iaload, 1) := by decide +kernel
theorem dX13_eldest_12 : decode cX13_eldest 12 = .ok (.if_icmp .ge 39, 3) := by decide +kernel
theorem dX13_eldest_15 : decode cX13_eldest 15 = .ok (.aload_n 0, 1) := by decide +kernel
theorem dX13_eldest_16 : decode cX13_eldest 16 = .ok (.iload_n 2, 1) := by decide +kernel
theorem dX13_eldest_17 : decode cX13_eldest 17 = .ok (.invokevirtual 296, 3) := by decide +kernel
theorem dX13_eldest_20 : decode cX13_eldest 20 = .ok (.ifCond .eq 25, 3) := by decide +kernel
theorem dX13_eldest_23 : decode cX13_eldest 23 = .ok (.iload_n 1, 1) := by decide +kernel
theorem dX13_eldest_24 : decode cX13_eldest 24 = .ok (.iconst (-1), 1) := by decide +kernel
theorem dX13_eldest_25 : decode cX13_eldest 25 = .ok (.if_icmp .eq 18, 3) := by decide +kernel
theorem dX13_eldest_28 : decode cX13_eldest 28 = .ok (.aload_n 0, 1) := by decide +kernel
theorem dX13_eldest_29 : decode cX13_eldest 29 = .ok (.iload_n 2, 1) := by decide +kernel
theorem dX13_eldest_30 : decode cX13_eldest 30 = .ok (.iconst 5, 1) := by decide +kernel
theorem dX13_eldest_31 : decode cX13_eldest 31 = .ok (.invokevirtual 80, 3) := by decide +kernel
theorem dX13_eldest_34 : decode cX13_eldest 34 = .ok (.aload_n 0, 1) := by decide +kernel
theorem dX13_eldest_35 : decode cX13_eldest 35 = .ok (.iload_n 1, 1) := by decide +kernel
theorem dX13_eldest_36 : decode cX13_eldest 36 = .ok (.iconst 5, 1) := by decide +kernel
theorem dX13_eldest_37 : decode cX13_eldest 37 = .ok (.invokevirtual 80, 3) := by decide +kernel
theorem dX13_eldest_40 : decode cX13_eldest 40 = .ok (.if_icmp .ge 5, 3) := by decide +kernel
theorem dX13_eldest_43 : decode cX13_eldest 43 = .ok (.iload_n 2, 1) := by decide +kernel
theorem dX13_eldest_44 : decode cX13_eldest 44 = .ok (.istore_n 1, 1) := by decide +kernel
theorem dX13_eldest_45 : decode cX13_eldest 45 = .ok (.iinc 2 1, 3) := by decide +kernel
theorem dX13_eldest_48 : decode cX13_eldest 48 = .ok (.goto (-44), 3) := by decide +kernel
theorem dX13_eldest_51 : decode cX13_eldest 51 = .ok (.iload_n 1, 1) := by decide +kernel
theorem dX13_eldest_52 : decode cX13_eldest 52 = .ok (.ireturn, 1) := by decide +kernel
theorem BX13_eldest_0 {d bc bs : Nat} {h : aH} {n : Nat} {Q : aQ} {r0 : Option Nat} {l1 l2 : Option aV} (k : Rn d bc bs mX13_eldest 4 [some (vR r0), some (vI (-1)), some (vI 0)] [] h n Q) : Rn d (bc) (bs) mX13_eldest 0 [some (vR r0), l1, l2] [] h n Q := by
  refine Rn_iconst dX13_eldest_0 rfl ?_
  refine Rn_istore_n dX13_eldest_1 rfl (Nat.le_of_ble_eq_true rfl) rfl rfl ?_
  refine Rn_iconst dX13_eldest_2 rfl ?_
  refine Rn_istore_n dX13_eldest_3 rfl (Nat.le_of_ble_eq_true rfl) rfl rfl ?_
  exact k
theorem BX13_eldest_4 {d bc bs : Nat} {h : aH} {n : Nat} {Q : aQ} {ar0 at3 : Nat} {x1 x2 v7 : Int} {f1 : List aV} {w5 : List Int} (h2 : h ar0 = cO 13 f1) (g4 : f1[0]? = some (vR (some at3))) (h6 : h at3 = cI w5) (g8 : w5[(9 : Int).toNat]? = some v7) (kt : v7 ≤ x2 → Rn d bc bs mX13_eldest 51 [some (vR (some ar0)), some (vI x1), some (vI x2)] [] h n Q) (kf : x2 < v7 → Rn d bc bs mX13_eldest 15 [some (vR (some ar0)), some (vI x1), some (vI x2)] [] h n Q) : Rn d (bc) (bs) mX13_eldest 4 [some (vR (some ar0)), some (vI x1), some (vI x2)] [] h n Q := by
  refine Rn_iload_n dX13_eldest_4 rfl rfl ?_
  refine Rn_aload_n dX13_eldest_5 rfl rfl rfl ?_
  refine Rn_getfield (ci := 13) (k := 0) dX13_eldest_6 rfl in_13 (Nat.le_of_ble_eq_true rfl) wd_1352 rfl h2 g4 ?_
  refine Rn_bipush dX13_eldest_9 rfl ?_
  refine Rn_iaload dX13_eldest_11 h6 (by decide) g8 ?_
  refine Rn_icmpge (tgt := 51) dX13_eldest_12 rfl ?_ ?_
  · exact kt
  · exact kf
theorem BX13_eldest_15 {d bc bs : Nat} {h : aH} {n : Nat} {Q : aQ} {ar0 : Nat} {x1 x2 : Int} {f1 : List aV} (h2 : h ar0 = cO 13 f1) (k : Rn d 0 0 mX13_isAfloat 0 [some (vR (some ar0)), some (vI x2)] [] h n (fun v h1 n1 => Rn (d + 1) bc bs mX13_eldest 20 [some (vR (some ar0)), some (vI x1), some (vI x2)] (v.toList ++ []) h1 n1 Q)) : Rn (d + 1) (bc) (bs) mX13_eldest 15 [some (vR (some ar0)), some (vI x1), some (vI x2)] [] h n Q := by
  refine Rn_aload_n dX13_eldest_15 rfl rfl rfl ?_
  refine Rn_iload_n dX13_eldest_16 rfl rfl ?_
  exact Rn_callV (ci := 13) (avs := [vI x2]) (st := []) (bc1 := 0) (bs1 := 0) (bc2 := bc) (bs2 := bs) fx_X13_isAfloat dX13_eldest_17 wd_1674 wd_1676 wd_80 rfl h2 rfl (Nat.le_of_ble_eq_true rfl) (Nat.le_of_ble_eq_true rfl) (by omega) (by omega) (ls1 := [some (vR (some ar0)), some (vI x2)]) rfl k
theorem BX13_eldest_20 {d bc bs : Nat} {h : aH} {n : Nat} {Q : aQ} {r0 : Option Nat} {x1 x2 s0 : Int} (kt : s0 = 0 → Rn d bc bs mX13_eldest 45 [some (vR r0), some (vI x1), some (vI x2)] [] h n Q) (kf : s0 ≠ 0 → Rn d bc bs mX13_eldest 23 [some (vR r0), some (vI x1), some (vI x2)] [] h n Q) : Rn d (bc) (bs) mX13_eldest 20 [some (vR r0), some (vI x1), some (vI x2)] [vI s0] h n Q := by
  refine Rn_ifeq (tgt := 45) dX13_eldest_20 rfl ?_ ?_
  · exact kt
  · exact kf
theorem BX13_eldest_23 {d bc bs : Nat} {h : aH} {n : Nat} {Q : aQ} {r0 : Option Nat} {x1 x2 : Int} (kt : x1 = (-1) → Rn d bc bs mX13_eldest 43 [some (vR r0), some (vI x1), some (vI x2)] [] h n Q) (kf : x1 ≠ (-1) → Rn d bc bs mX13_eldest 28 [some (vR r0), some (vI x1), some (vI x2)] [] h n Q) : Rn d (bc) (bs) mX13_eldest 23 [some (vR r0), some (vI x1), some (vI x2)] [] h n Q := by
  refine Rn_iload_n dX13_eldest_23 rfl rfl ?_
  refine Rn_iconst dX13_eldest_24 rfl ?_
  refine Rn_icmpeq (tgt := 43) dX13_eldest_25 rfl ?_ ?_
  · exact kt
  · exact kf
theorem BX13_eldest_28 {d bc bs : Nat} {h : aH} {n : Nat} {Q : aQ} {ar0 : Nat} {x1 x2 : Int} {f1 : List aV} (h2 : h ar0 = cO 13 f1) (k : Rn d 0 0 mX13_get 0 [some (vR (some ar0)), some (vI x2), some (vI 5)] [] h n (fun v h1 n1 => Rn (d + 1) bc bs mX13_eldest 34 [some (vR (some ar0)), some (vI x1), some (vI x2)] (v.toList ++ []) h1 n1 Q)) : Rn (d + 1) (bc) (bs) mX13_eldest 28 [some (vR (some ar0)), some (vI x1), some (vI x2)] [] h n Q := by
  refine Rn_aload_n dX13_eldest_28 rfl rfl rfl ?_
  refine Rn_iload_n dX13_eldest_29 rfl rfl ?_
  refine Rn_iconst dX13_eldest_30 rfl ?_
  exact Rn_callV (ci := 13) (avs := [vI x2, vI 5]) (st := []) (bc1 := 0) (bs1 := 0) (bc2 := bc) (bs2 := bs) fx_X13_get dX13_eldest_31 wd_1682 wd_1684 wd_82 rfl h2 rfl (Nat.le_of_ble_eq_true rfl) (Nat.le_of_ble_eq_true rfl) (by omega) (by omega) (ls1 := [some (vR (some ar0)), some (vI x2), some (vI 5)]) rfl k
theorem BX13_eldest_34 {d bc bs : Nat} {h : aH} {n : Nat} {Q : aQ} {ar0 : Nat} {x1 x2 s0 : Int} {f1 : List aV} (h2 : h ar0 = cO 13 f1) (k : Rn d 0 0 mX13_get 0 [some (vR (some ar0)), some (vI x1), some (vI 5)] [] h n (fun v h1 n1 => Rn (d + 1) bc bs mX13_eldest 40 [some (vR (some ar0)), some (vI x1), some (vI x2)] (v.toList ++ [vI s0]) h1 n1 Q)) : Rn (d + 1) (bc) (bs) mX13_eldest 34 [some (vR (some ar0)), some (vI x1), some (vI x2)] [vI s0] h n Q := by
  refine Rn_aload_n dX13_eldest_34 rfl rfl rfl ?_
  refine Rn_iload_n dX13_eldest_35 rfl rfl ?_
  refine Rn_iconst dX13_eldest_36 rfl ?_
  exact Rn_callV (ci := 13) (avs := [vI x1, vI 5]) (st := [vI s0]) (bc1 := 0) (bs1 := 0) (bc2 := bc) (bs2 := bs) fx_X13_get dX13_eldest_37 wd_1682 wd_1684 wd_82 rfl h2 rfl (Nat.le_of_ble_eq_true rfl) (Nat.le_of_ble_eq_true rfl) (by omega) (by omega) (ls1 := [some (vR (some ar0)), some (vI x1), some (vI 5)]) rfl k
theorem BX13_eldest_40 {d bc bs : Nat} {h : aH} {n : Nat} {Q : aQ} {r0 : Option Nat} {x1 x2 s0 s1 : Int} (kt : s1 ≤ s0 → Rn d bc bs mX13_eldest 45 [some (vR r0), some (vI x1), some (vI x2)] [] h n Q) (kf : s0 < s1 → Rn d bc bs mX13_eldest 43 [some (vR r0), some (vI x1), some (vI x2)] [] h n Q) : Rn d (bc) (bs) mX13_eldest 40 [some (vR r0), some (vI x1), some (vI x2)] [vI s1, vI s0] h n Q := by
  refine Rn_icmpge (tgt := 45) dX13_eldest_40 rfl ?_ ?_
  · exact kt
  · exact kf
theorem BX13_eldest_43 {d bc bs : Nat} {h : aH} {n : Nat} {Q : aQ} {r0 : Option Nat} {x1 x2 : Int} (b1 : -2147483648 ≤ x2 + 1 ∧ x2 + 1 < 2147483648) (k : Rn d bc bs mX13_eldest 4 [some (vR r0), some (vI x2), some (vI (x2 + 1))] [] h n Q) : Rn d (bc) (bs) mX13_eldest 43 [some (vR r0), some (vI x1), some (vI x2)] [] h n Q := by
  refine Rn_iload_n dX13_eldest_43 rfl rfl ?_
  refine Rn_istore_n dX13_eldest_44 rfl (Nat.le_of_ble_eq_true rfl) rfl rfl ?_
  refine Rn_iinc dX13_eldest_45 rfl (Nat.le_of_ble_eq_true rfl) rfl rfl rfl ?_
  rw [w32_id b1.1 b1.2]
  refine Rn_goto (tgt := 4) dX13_eldest_48 rfl ?_
  exact k
theorem BX13_eldest_45 {d bc bs : Nat} {h : aH} {n : Nat} {Q : aQ} {r0 : Option Nat} {x1 x2 : Int} (b1 : -2147483648 ≤ x2 + 1 ∧ x2 + 1 < 2147483648) (k : Rn d bc bs mX13_eldest 4 [some (vR r0), some (vI x1), some (vI (x2 + 1))] [] h n Q) : Rn d (bc) (bs) mX13_eldest 45 [some (vR r0), some (vI x1), some (vI x2)] [] h n Q := by
  refine Rn_iinc dX13_eldest_45 rfl (Nat.le_of_ble_eq_true rfl) rfl rfl rfl ?_
  rw [w32_id b1.1 b1.2]
  refine Rn_goto (tgt := 4) dX13_eldest_48 rfl ?_
  exact k
theorem BX13_eldest_51 {d bc bs : Nat} {h : aH} {n : Nat} {Q : aQ} {r0 : Option Nat} {x1 x2 : Int} (k : Q (some (vI x1)) h n) : Rn d (bc) (bs) mX13_eldest 51 [some (vR r0), some (vI x1), some (vI x2)] [] h n Q := by
  refine Rn_iload_n dX13_eldest_51 rfl rfl ?_
  exact Rn_ireturn rfl dX13_eldest_52 k
theorem dX13_crowd_0 : decode cX13_crowd 0 = .ok (.iconst (-1), 1) := by decide +kernel
theorem dX13_crowd_1 : decode cX13_crowd 1 = .ok (.istore_n 1, 1) := by decide +kernel
theorem dX13_crowd_2 : decode cX13_crowd 2 = .ok (.iconst 0, 1) := by decide +kernel
theorem dX13_crowd_3 : decode cX13_crowd 3 = .ok (.istore_n 2, 1) := by decide +kernel
theorem dX13_crowd_4 : decode cX13_crowd 4 = .ok (.iload_n 2, 1) := by decide +kernel
theorem dX13_crowd_5 : decode cX13_crowd 5 = .ok (.bipush 10, 2) := by decide +kernel
theorem dX13_crowd_7 : decode cX13_crowd 7 = .ok (.if_icmp .ge 33, 3) := by decide +kernel
theorem dX13_crowd_10 : decode cX13_crowd 10 = .ok (.aload_n 0, 1) := by decide +kernel
theorem dX13_crowd_11 : decode cX13_crowd 11 = .ok (.iload_n 2, 1) := by decide +kernel
theorem dX13_crowd_12 : decode cX13_crowd 12 = .ok (.invokevirtual 299, 3) := by decide +kernel
theorem dX13_crowd_15 : decode cX13_crowd 15 = .ok (.iload_n 1, 1) := by decide +kernel
theorem dX13_crowd_16 : decode cX13_crowd 16 = .ok (.iconst (-1), 1) := by decide +kernel
theorem dX13_crowd_17 : decode cX13_crowd 17 = .ok (.if_icmp .ne 7, 3) := by decide +kernel
theorem dX13_crowd_20 : decode cX13_crowd 20 = .ok (.iconst 0, 1) := by decide +kernel
theorem dX13_crowd_21 : decode cX13_crowd 21 = .ok (.goto 8, 3) := by decide +kernel
theorem dX13_crowd_24 : decode cX13_crowd 24 = .ok (.aload_n 0, 1) := by decide +kernel
theorem dX13_crowd_25 : decode cX13_crowd 25 = .ok (.iload_n 1, 1) := by decide +kernel
theorem dX13_crowd_26 : decode cX13_crowd 26 = .ok (.invokevirtual 299, 3) := by decide +kernel
theorem dX13_crowd_29 : decode cX13_crowd 29 = .ok (.if_icmp .le 5, 3) := by decide +kernel
theorem dX13_crowd_32 : decode cX13_crowd 32 = .ok (.iload_n 2, 1) := by decide +kernel
theorem dX13_crowd_33 : decode cX13_crowd 33 = .ok (.istore_n 1, 1) := by decide +kernel
theorem dX13_crowd_34 : decode cX13_crowd 34 = .ok (.iinc 2 1, 3) := by decide +kernel
theorem dX13_crowd_37 : decode cX13_crowd 37 = .ok (.goto (-33), 3) := by decide +kernel
theorem dX13_crowd_40 : decode cX13_crowd 40 = .ok (.iload_n 1, 1) := by decide +kernel
theorem dX13_crowd_41 : decode cX13_crowd 41 = .ok (.ireturn, 1) := by decide +kernel
theorem BX13_crowd_0 {d bc bs : Nat} {h : aH} {n : Nat} {Q : aQ} {r0 : Option Nat} {l1 l2 : Option aV} (k : Rn d bc bs mX13_crowd 4 [some (vR r0), some (vI (-1)), some (vI 0)] [] h n Q) : Rn d (bc) (bs) mX13_crowd 0 [some (vR r0), l1, l2] [] h n Q := by
  refine Rn_iconst dX13_crowd_0 rfl ?_
  refine Rn_istore_n dX13_crowd_1 rfl (Nat.le_of_ble_eq_true rfl) rfl rfl ?_
  refine Rn_iconst dX13_crowd_2 rfl ?_
  refine Rn_istore_n dX13_crowd_3 rfl (Nat.le_of_ble_eq_true rfl) rfl rfl ?_
  exact k
theorem BX13_crowd_4 {d bc bs : Nat} {h : aH} {n : Nat} {Q : aQ} {r0 : Option Nat} {x1 x2 : Int} (kt : 10 ≤ x2 → Rn d bc bs mX13_crowd 40 [some (vR r0), some (vI x1), some (vI x2)] [] h n Q) (kf : x2 < 10 → Rn d bc bs mX13_crowd 10 [some (vR r0), some (vI x1), some (vI x2)] [] h n Q) : Rn d (bc) (bs) mX13_crowd 4 [some (vR r0), some (vI x1), some (vI x2)] [] h n Q := by
  refine Rn_iload_n dX13_crowd_4 rfl rfl ?_
  refine Rn_bipush dX13_crowd_5 rfl ?_
  refine Rn_icmpge (tgt := 40) dX13_crowd_7 rfl ?_ ?_
  · exact kt
  · exact kf
theorem BX13_crowd_10 {d bc bs : Nat} {h : aH} {n : Nat} {Q : aQ} {ar0 : Nat} {x1 x2 : Int} {f1 : List aV} (h2 : h ar0 = cO 13 f1) (k : Rn d 0 0 mX13_afloatAt 0 [some (vR (some ar0)), some (vI x2), none, none] [] h n (fun v h1 n1 => Rn (d + 1) bc bs mX13_crowd 15 [some (vR (some ar0)), some (vI x1), some (vI x2)] (v.toList ++ []) h1 n1 Q)) : Rn (d + 1) (bc) (bs) mX13_crowd 10 [some (vR (some ar0)), some (vI x1), some (vI x2)] [] h n Q := by
  refine Rn_aload_n dX13_crowd_10 rfl rfl rfl ?_
  refine Rn_iload_n dX13_crowd_11 rfl rfl ?_
  exact Rn_callV (ci := 13) (avs := [vI x2]) (st := []) (bc1 := 0) (bs1 := 0) (bc2 := bc) (bs2 := bs) fx_X13_afloatAt dX13_crowd_12 wd_1734 wd_1736 wd_93 rfl h2 rfl (Nat.le_of_ble_eq_true rfl) (Nat.le_of_ble_eq_true rfl) (by omega) (by omega) (ls1 := [some (vR (some ar0)), some (vI x2), none, none]) rfl k
theorem BX13_crowd_15 {d bc bs : Nat} {h : aH} {n : Nat} {Q : aQ} {r0 : Option Nat} {x1 x2 s0 : Int} (kt : x1 ≠ (-1) → Rn d bc bs mX13_crowd 24 [some (vR r0), some (vI x1), some (vI x2)] [vI s0] h n Q) (kf : x1 = (-1) → Rn d bc bs mX13_crowd 20 [some (vR r0), some (vI x1), some (vI x2)] [vI s0] h n Q) : Rn d (bc) (bs) mX13_crowd 15 [some (vR r0), some (vI x1), some (vI x2)] [vI s0] h n Q := by
  refine Rn_iload_n dX13_crowd_15 rfl rfl ?_
  refine Rn_iconst dX13_crowd_16 rfl ?_
  refine Rn_icmpne (tgt := 24) dX13_crowd_17 rfl ?_ ?_
  · exact kt
  · exact kf
theorem BX13_crowd_20 {d bc bs : Nat} {h : aH} {n : Nat} {Q : aQ} {r0 : Option Nat} {x1 x2 s0 : Int} (kt : s0 ≤ 0 → Rn d bc bs mX13_crowd 34 [some (vR r0), some (vI x1), some (vI x2)] [] h n Q) (kf : 0 < s0 → Rn d bc bs mX13_crowd 32 [some (vR r0), some (vI x1), some (vI x2)] [] h n Q) : Rn d (bc) (bs) mX13_crowd 20 [some (vR r0), some (vI x1), some (vI x2)] [vI s0] h n Q := by
  refine Rn_iconst dX13_crowd_20 rfl ?_
  refine Rn_goto (tgt := 29) dX13_crowd_21 rfl ?_
  refine Rn_icmple (tgt := 34) dX13_crowd_29 rfl ?_ ?_
  · exact kt
  · exact kf
theorem BX13_crowd_24 {d bc bs : Nat} {h : aH} {n : Nat} {Q : aQ} {ar0 : Nat} {x1 x2 s0 : Int} {f1 : List aV} (h2 : h ar0 = cO 13 f1) (k : Rn d 0 0 mX13_afloatAt 0 [some (vR (some ar0)), some (vI x1), none, none] [] h n (fun v h1 n1 => Rn (d + 1) bc bs mX13_crowd 29 [some (vR (some ar0)), some (vI x1), some (vI x2)] (v.toList ++ [vI s0]) h1 n1 Q)) : Rn (d + 1) (bc) (bs) mX13_crowd 24 [some (vR (some ar0)), some (vI x1), some (vI x2)] [vI s0] h n Q := by
  refine Rn_aload_n dX13_crowd_24 rfl rfl rfl ?_
  refine Rn_iload_n dX13_crowd_25 rfl rfl ?_
  exact Rn_callV (ci := 13) (avs := [vI x1]) (st := [vI s0]) (bc1 := 0) (bs1 := 0) (bc2 := bc) (bs2 := bs) fx_X13_afloatAt dX13_crowd_26 wd_1734 wd_1736 wd_93 rfl h2 rfl (Nat.le_of_ble_eq_true rfl) (Nat.le_of_ble_eq_true rfl) (by omega) (by omega) (ls1 := [some (vR (some ar0)), some (vI x1), none, none]) rfl k
theorem BX13_crowd_29 {d bc bs : Nat} {h : aH} {n : Nat} {Q : aQ} {r0 : Option Nat} {x1 x2 s0 s1 : Int} (kt : s0 ≤ s1 → Rn d bc bs mX13_crowd 34 [some (vR r0), some (vI x1), some (vI x2)] [] h n Q) (kf : s1 < s0 → Rn d bc bs mX13_crowd 32 [some (vR r0), some (vI x1), some (vI x2)] [] h n Q) : Rn d (bc) (bs) mX13_crowd 29 [some (vR r0), some (vI x1), some (vI x2)] [vI s1, vI s0] h n Q := by
  refine Rn_icmple (tgt := 34) dX13_crowd_29 rfl ?_ ?_
  · exact kt
  · exact kf
theorem BX13_crowd_32 {d bc bs : Nat} {h : aH} {n : Nat} {Q : aQ} {r0 : Option Nat} {x1 x2 : Int} (b1 : -2147483648 ≤ x2 + 1 ∧ x2 + 1 < 2147483648) (k : Rn d bc bs mX13_crowd 4 [some (vR r0), some (vI x2), some (vI (x2 + 1))] [] h n Q) : Rn d (bc) (bs) mX13_crowd 32 [some (vR r0), some (vI x1), some (vI x2)] [] h n Q := by
  refine Rn_iload_n dX13_crowd_32 rfl rfl ?_
  refine Rn_istore_n dX13_crowd_33 rfl (Nat.le_of_ble_eq_true rfl) rfl rfl ?_
  refine Rn_iinc dX13_crowd_34 rfl (Nat.le_of_ble_eq_true rfl) rfl rfl rfl ?_
  rw [w32_id b1.1 b1.2]
  refine Rn_goto (tgt := 4) dX13_crowd_37 rfl ?_
  exact k
theorem BX13_crowd_34 {d bc bs : Nat} {h : aH} {n : Nat} {Q : aQ} {r0 : Option Nat} {x1 x2 : Int} (b1 : -2147483648 ≤ x2 + 1 ∧ x2 + 1 < 2147483648) (k : Rn d bc bs mX13_crowd 4 [some (vR r0), some (vI x1), some (vI (x2 + 1))] [] h n Q) : Rn d (bc) (bs) mX13_crowd 34 [some (vR r0), some (vI x1), some (vI x2)] [] h n Q := by
  refine Rn_iinc dX13_crowd_34 rfl (Nat.le_of_ble_eq_true rfl) rfl rfl rfl ?_
  rw [w32_id b1.1 b1.2]
  refine Rn_goto (tgt := 4) dX13_crowd_37 rfl ?_
  exact k
theorem BX13_crowd_40 {d bc bs : Nat} {h : aH} {n : Nat} {Q : aQ} {r0 : Option Nat} {x1 x2 : Int} (k : Q (some (vI x1)) h n) : Rn d (bc) (bs) mX13_crowd 40 [some (vR r0), some (vI x1), some (vI x2)] [] h n Q := by
  refine Rn_iload_n dX13_crowd_40 rfl rfl ?_
  exact Rn_ireturn rfl dX13_crowd_41 k
theorem dX13_empty_0 : decode cX13_empty 0 = .ok (.sipush 1023, 3) := by decide +kernel
theorem dX13_empty_3 : decode cX13_empty 3 = .ok (.istore_n 1, 1) := by decide +kernel
theorem dX13_empty_4 : decode cX13_empty 4 = .ok (.iconst 0, 1) := by decide +kernel
theorem dX13_empty_5 : decode cX13_empty 5 = .ok (.istore_n 2, 1) := by decide +kernel
theorem dX13_empty_6 : decode cX13_empty 6 = .ok (.iload_n 2, 1) := by decide +kernel
theorem dX13_empty_7 : decode cX13_empty 7 = .ok (.aload_n 0, 1) := by decide +kernel
theorem dX13_empty_8 : decode cX13_empty 8 = .ok (.getfield 7, 3) := by decide +kernel
theorem dX13_empty_11 : decode cX13_empty 11 = .ok (.iconst 0, 1) := by decide +kernel
theorem dX13_empty_12 : decode cX13_empty 12 = .ok (.iaload, 1) := by decide +kernel
theorem dX13_empty_13 : decode cX13_empty 13 = .ok (.if_icmp .ge 22, 3) := by decide +kernel
theorem dX13_empty_16 : decode cX13_empty 16 = .ok (.iload_n 1, 1) := by decide +kernel
theorem dX13_empty_17 : decode cX13_empty 17 = .ok (.iconst 1, 1) := by decide +kernel
theorem dX13_empty_18 : decode cX13_empty 18 = .ok (.aload_n 0, 1) := by decide +kernel
theorem dX13_empty_19 : decode cX13_empty 19 = .ok (.iload_n 2, 1) := by decide +kernel
theorem dX13_empty_20 : decode cX13_empty 20 = .ok (.iconst 0, 1) := by decide +kernel
theorem dX13_empty_21 : decode cX13_empty 21 = .ok (.invokevirtual 267, 3) := by decide +kernel
theorem dX13_empty_24 : decode cX13_empty 24 = .ok (.ishl, 1) := by decide +kernel
theorem dX13_empty_25 : decode cX13_empty 25 = .ok (.iconst (-1), 1) := by decide +kernel
theorem dX13_empty_26 : decode cX13_empty 26 = .ok (.ixor, 1) := by decide +kernel
theorem dX13_empty_27 : decode cX13_empty 27 = .ok (.iand, 1) := by decide +kernel
theorem dX13_empty_28 : decode cX13_empty 28 = .ok (.istore_n 1, 1) := by decide +kernel
theorem dX13_empty_29 : decode cX13_empty 29 = .ok (.iinc 2 1, 3) := by decide +kernel
theorem dX13_empty_32 : decode cX13_empty 32 = .ok (.goto (-26), 3) := by decide +kernel
theorem dX13_empty_35 : decode cX13_empty 35 = .ok (.iconst 0, 1) := by decide +kernel
theorem dX13_empty_36 : decode cX13_empty 36 = .ok (.istore_n 2, 1) := by decide +kernel
theorem dX13_empty_37 : decode cX13_empty 37 = .ok (.iload_n 2, 1) := by decide +kernel
theorem dX13_empty_38 : decode cX13_empty 38 = .ok (.bipush 10, 2) := by decide +kernel
theorem dX13_empty_40 : decode cX13_empty 40 = .ok (.if_icmp .ge 25, 3) := by decide +kernel
theorem dX13_empty_43 : decode cX13_empty 43 = .ok (.aload_n 0, 1) := by decide +kernel
theorem dX13_empty_44 : decode cX13_empty 44 = .ok (.iload_n 2, 1) := by decide +kernel
theorem dX13_empty_45 : decode cX13_empty 45 = .ok (.invokevirtual 299, 3) := by decide +kernel
theorem dX13_empty_48 : decode cX13_empty 48 = .ok (.ifCond .le 11, 3) := by decide +kernel
theorem dX13_empty_51 : decode cX13_empty 51 = .ok (.iload_n 1, 1) := by decide +kernel
theorem dX13_empty_52 : decode cX13_empty 52 = .ok (.iconst 1, 1) := by decide +kernel
theorem dX13_empty_53 : decode cX13_empty 53 = .ok (.iload_n 2, 1) := by decide +kernel
theorem dX13_empty_54 : decode cX13_empty 54 = .ok (.ishl, 1) := by decide +kernel
theorem dX13_empty_55 : decode cX13_empty 55 = .ok (.iconst (-1), 1) := by decide +kernel
theorem dX13_empty_56 : decode cX13_empty 56 = .ok (.ixor, 1) := by decide +kernel
theorem dX13_empty_57 : decode cX13_empty 57 = .ok (.iand, 1) := by decide +kernel
theorem dX13_empty_58 : decode cX13_empty 58 = .ok (.istore_n 1, 1) := by decide +kernel
theorem dX13_empty_59 : decode cX13_empty 59 = .ok (.iinc 2 1, 3) := by decide +kernel
theorem dX13_empty_62 : decode cX13_empty 62 = .ok (.goto (-25), 3) := by decide +kernel
theorem dX13_empty_65 : decode cX13_empty 65 = .ok (.iload_n 1, 1) := by decide +kernel
theorem dX13_empty_66 : decode cX13_empty 66 = .ok (.ireturn, 1) := by decide +kernel
theorem BX13_empty_0 {d bc bs : Nat} {h : aH} {n : Nat} {Q : aQ} {r0 : Option Nat} {l1 l2 : Option aV} (k : Rn d bc bs mX13_empty 6 [some (vR r0), some (vI 1023), some (vI 0)] [] h n Q) : Rn d (bc) (bs) mX13_empty 0 [some (vR r0), l1, l2] [] h n Q := by
  refine Rn_sipush dX13_empty_0 rfl ?_
  refine Rn_istore_n dX13_empty_3 rfl (Nat.le_of_ble_eq_true rfl) rfl rfl ?_
  refine Rn_iconst dX13_empty_4 rfl ?_
  refine Rn_istore_n dX13_empty_5 rfl (Nat.le_of_ble_eq_true rfl) rfl rfl ?_
  exact k
theorem BX13_empty_6 {d bc bs : Nat} {h : aH} {n : Nat} {Q : aQ} {ar0 at3 : Nat} {x1 x2 v7 : Int} {f1 : List aV} {w5 : List Int} (h2 : h ar0 = cO 13 f1) (g4 : f1[0]? = some (vR (some at3))) (h6 : h at3 = cI w5) (g8 : w5[(0 : Int).toNat]? = some v7) (kt : v7 ≤ x2 → Rn d bc bs mX13_empty 35 [some (vR (some ar0)), some (vI x1), some (vI x2)] [] h n Q) (kf : x2 < v7 → Rn d bc bs mX13_empty 16 [some (vR (some ar0)), some (vI x1), some (vI x2)] [] h n Q) : Rn d (bc) (bs) mX13_empty 6 [some (vR (some ar0)), some (vI x1), some (vI x2)] [] h n Q := by
  refine Rn_iload_n dX13_empty_6 rfl rfl ?_
  refine Rn_aload_n dX13_empty_7 rfl rfl rfl ?_
  refine Rn_getfield (ci := 13) (k := 0) dX13_empty_8 rfl in_13 (Nat.le_of_ble_eq_true rfl) wd_1352 rfl h2 g4 ?_
  refine Rn_iconst dX13_empty_11 rfl ?_
  refine Rn_iaload dX13_empty_12 h6 (by decide) g8 ?_
  refine Rn_icmpge (tgt := 35) dX13_empty_13 rfl ?_ ?_
  · exact kt
  · exact kf
theorem BX13_empty_16 {d bc bs : Nat} {h : aH} {n : Nat} {Q : aQ} {ar0 : Nat} {x1 x2 : Int} {f1 : List aV} (h2 : h ar0 = cO 13 f1) (k : Rn d 0 0 mX13_own 0 [some (vR (some ar0)), some (vI x2), some (vI 0)] [] h n (fun v h1 n1 => Rn (d + 1) bc bs mX13_empty 24 [some (vR (some ar0)), some (vI x1), some (vI x2)] (v.toList ++ [vI 1, vI x1]) h1 n1 Q)) : Rn (d + 1) (bc) (bs) mX13_empty 16 [some (vR (some ar0)), some (vI x1), some (vI x2)] [] h n Q := by
  refine Rn_iload_n dX13_empty_16 rfl rfl ?_
  refine Rn_iconst dX13_empty_17 rfl ?_
  refine Rn_aload_n dX13_empty_18 rfl rfl rfl ?_
  refine Rn_iload_n dX13_empty_19 rfl rfl ?_
  refine Rn_iconst dX13_empty_20 rfl ?_
  exact Rn_callV (ci := 13) (avs := [vI x2, vI 0]) (st := [vI 1, vI x1]) (bc1 := 0) (bs1 := 0) (bc2 := bc) (bs2 := bs) fx_X13_own dX13_empty_21 wd_1662 wd_1664 wd_78 rfl h2 rfl (Nat.le_of_ble_eq_true rfl) (Nat.le_of_ble_eq_true rfl) (by omega) (by omega) (ls1 := [some (vR (some ar0)), some (vI x2), some (vI 0)]) rfl k
theorem BX13_empty_24 {d bc bs : Nat} {h : aH} {n : Nat} {Q : aQ} {r0 : Option Nat} {x1 x2 s0 s1 s2 : Int} (b1 : -2147483648 ≤ x2 + 1 ∧ x2 + 1 < 2147483648) (k : Rn d bc bs mX13_empty 6 [some (vR r0), some (vI (and32 s0 (xor32 (shl32 s1 s2) (-1)))), some (vI (x2 + 1))] [] h n Q) : Rn d (bc) (bs) mX13_empty 24 [some (vR r0), some (vI x1), some (vI x2)] [vI s2, vI s1, vI s0] h n Q := by
  refine Rn_ishl dX13_empty_24 ?_
  refine Rn_iconst dX13_empty_25 rfl ?_
  refine Rn_ixor dX13_empty_26 ?_
  refine Rn_iand dX13_empty_27 ?_
  refine Rn_istore_n dX13_empty_28 rfl (Nat.le_of_ble_eq_true rfl) rfl rfl ?_
  refine Rn_iinc dX13_empty_29 rfl (Nat.le_of_ble_eq_true rfl) rfl rfl rfl ?_
  rw [w32_id b1.1 b1.2]
  refine Rn_goto (tgt := 6) dX13_empty_32 rfl ?_
  exact k
theorem BX13_empty_35 {d bc bs : Nat} {h : aH} {n : Nat} {Q : aQ} {r0 : Option Nat} {x1 x2 : Int} (k : Rn d bc bs mX13_empty 37 [some (vR r0), some (vI x1), some (vI 0)] [] h n Q) : Rn d (bc) (bs) mX13_empty 35 [some (vR r0), some (vI x1), some (vI x2)] [] h n Q := by
  refine Rn_iconst dX13_empty_35 rfl ?_
  refine Rn_istore_n dX13_empty_36 rfl (Nat.le_of_ble_eq_true rfl) rfl rfl ?_
  exact k
theorem BX13_empty_37 {d bc bs : Nat} {h : aH} {n : Nat} {Q : aQ} {r0 : Option Nat} {x1 x2 : Int} (kt : 10 ≤ x2 → Rn d bc bs mX13_empty 65 [some (vR r0), some (vI x1), some (vI x2)] [] h n Q) (kf : x2 < 10 → Rn d bc bs mX13_empty 43 [some (vR r0), some (vI x1), some (vI x2)] [] h n Q) : Rn d (bc) (bs) mX13_empty 37 [some (vR r0), some (vI x1), some (vI x2)] [] h n Q := by
  refine Rn_iload_n dX13_empty_37 rfl rfl ?_
  refine Rn_bipush dX13_empty_38 rfl ?_
  refine Rn_icmpge (tgt := 65) dX13_empty_40 rfl ?_ ?_
  · exact kt
  · exact kf
theorem BX13_empty_43 {d bc bs : Nat} {h : aH} {n : Nat} {Q : aQ} {ar0 : Nat} {x1 x2 : Int} {f1 : List aV} (h2 : h ar0 = cO 13 f1) (k : Rn d 0 0 mX13_afloatAt 0 [some (vR (some ar0)), some (vI x2), none, none] [] h n (fun v h1 n1 => Rn (d + 1) bc bs mX13_empty 48 [some (vR (some ar0)), some (vI x1), some (vI x2)] (v.toList ++ []) h1 n1 Q)) : Rn (d + 1) (bc) (bs) mX13_empty 43 [some (vR (some ar0)), some (vI x1), some (vI x2)] [] h n Q := by
  refine Rn_aload_n dX13_empty_43 rfl rfl rfl ?_
  refine Rn_iload_n dX13_empty_44 rfl rfl ?_
  exact Rn_callV (ci := 13) (avs := [vI x2]) (st := []) (bc1 := 0) (bs1 := 0) (bc2 := bc) (bs2 := bs) fx_X13_afloatAt dX13_empty_45 wd_1734 wd_1736 wd_93 rfl h2 rfl (Nat.le_of_ble_eq_true rfl) (Nat.le_of_ble_eq_true rfl) (by omega) (by omega) (ls1 := [some (vR (some ar0)), some (vI x2), none, none]) rfl k
theorem BX13_empty_48 {d bc bs : Nat} {h : aH} {n : Nat} {Q : aQ} {r0 : Option Nat} {x1 x2 s0 : Int} (kt : s0 ≤ 0 → Rn d bc bs mX13_empty 59 [some (vR r0), some (vI x1), some (vI x2)] [] h n Q) (kf : 0 < s0 → Rn d bc bs mX13_empty 51 [some (vR r0), some (vI x1), some (vI x2)] [] h n Q) : Rn d (bc) (bs) mX13_empty 48 [some (vR r0), some (vI x1), some (vI x2)] [vI s0] h n Q := by
  refine Rn_ifle (tgt := 59) dX13_empty_48 rfl ?_ ?_
  · exact kt
  · exact kf
theorem BX13_empty_51 {d bc bs : Nat} {h : aH} {n : Nat} {Q : aQ} {r0 : Option Nat} {x1 x2 : Int} (b1 : -2147483648 ≤ x2 + 1 ∧ x2 + 1 < 2147483648) (k : Rn d bc bs mX13_empty 37 [some (vR r0), some (vI (and32 x1 (xor32 (shl32 1 x2) (-1)))), some (vI (x2 + 1))] [] h n Q) : Rn d (bc) (bs) mX13_empty 51 [some (vR r0), some (vI x1), some (vI x2)] [] h n Q := by
  refine Rn_iload_n dX13_empty_51 rfl rfl ?_
  refine Rn_iconst dX13_empty_52 rfl ?_
  refine Rn_iload_n dX13_empty_53 rfl rfl ?_
  refine Rn_ishl dX13_empty_54 ?_
  refine Rn_iconst dX13_empty_55 rfl ?_
  refine Rn_ixor dX13_empty_56 ?_
  refine Rn_iand dX13_empty_57 ?_
  refine Rn_istore_n dX13_empty_58 rfl (Nat.le_of_ble_eq_true rfl) rfl rfl ?_
  refine Rn_iinc dX13_empty_59 rfl (Nat.le_of_ble_eq_true rfl) rfl rfl rfl ?_
  rw [w32_id b1.1 b1.2]
  refine Rn_goto (tgt := 37) dX13_empty_62 rfl ?_
  exact k
theorem BX13_empty_59 {d bc bs : Nat} {h : aH} {n : Nat} {Q : aQ} {r0 : Option Nat} {x1 x2 : Int} (b1 : -2147483648 ≤ x2 + 1 ∧ x2 + 1 < 2147483648) (k : Rn d bc bs mX13_empty 37 [some (vR r0), some (vI x1), some (vI (x2 + 1))] [] h n Q) : Rn d (bc) (bs) mX13_empty 59 [some (vR r0), some (vI x1), some (vI x2)] [] h n Q := by
  refine Rn_iinc dX13_empty_59 rfl (Nat.le_of_ble_eq_true rfl) rfl rfl rfl ?_
  rw [w32_id b1.1 b1.2]
  refine Rn_goto (tgt := 37) dX13_empty_62 rfl ?_
  exact k
theorem BX13_empty_65 {d bc bs : Nat} {h : aH} {n : Nat} {Q : aQ} {r0 : Option Nat} {x1 x2 : Int} (k : Q (some (vI x1)) h n) : Rn d (bc) (bs) mX13_empty 65 [some (vR r0), some (vI x1), some (vI x2)] [] h n Q := by
  refine Rn_iload_n dX13_empty_65 rfl rfl ?_
  exact Rn_ireturn rfl dX13_empty_66 k
theorem dX13_setAside_0 : decode cX13_setAside 0 = .ok (.bipush 7, 2) := by decide +kernel
theorem dX13_setAside_2 : decode cX13_setAside 2 = .ok (.istore_n 1, 1) := by decide +kernel
theorem dX13_setAside_3 : decode cX13_setAside 3 = .ok (.iload_n 1, 1) := by decide +kernel
theorem dX13_setAside_4 : decode cX13_setAside 4 = .ok (.bipush 83, 2) := by decide +kernel
theorem dX13_setAside_6 : decode cX13_setAside 6 = .ok (.if_icmp .ge 21, 3) := by decide +kernel
theorem dX13_setAside_9 : decode cX13_setAside 9 = .ok (.aload_n 0, 1) := by decide +kernel
theorem dX13_setAside_10 : decode cX13_setAside 10 = .ok (.getfield 47, 3) := by decide +kernel
theorem dX13_setAside_13 : decode cX13_setAside 13 = .ok (.iload_n 1, 1) := by decide +kernel
theorem dX13_setAside_14 : decode cX13_setAside 14 = .ok (.aload_n 0, 1) := by decide +kernel
theorem dX13_setAside_15 : decode cX13_setAside 15 = .ok (.getfield 7, 3) := by decide +kernel
theorem dX13_setAside_18 : decode cX13_setAside 18 = .ok (.iload_n 1, 1) := by decide +kernel
theorem dX13_setAside_19 : decode cX13_setAside 19 = .ok (.iaload, 1) := by decide +kernel
theorem dX13_setAside_20 : decode cX13_setAside 20 = .ok (.iastore, 1) := by decide +kernel
theorem dX13_setAside_21 : decode cX13_setAside 21 = .ok (.iinc 1 1, 3) := by decide +kernel
theorem dX13_setAside_24 : decode cX13_setAside 24 = .ok (.goto (-21), 3) := by decide +kernel
theorem dX13_setAside_27 : decode cX13_setAside 27 = .ok (.aload_n 0, 1) := by decide +kernel
theorem dX13_setAside_28 : decode cX13_setAside 28 = .ok (.iconst 0, 1) := by decide +kernel
theorem dX13_setAside_29 : decode cX13_setAside 29 = .ok (.putfield 43, 3) := by decide +kernel
theorem dX13_setAside_32 : decode cX13_setAside 32 = .ok (.return_, 1) := by decide +kernel
theorem BX13_setAside_0 {d bc bs : Nat} {h : aH} {n : Nat} {Q : aQ} {r0 : Option Nat} {l1 : Option aV} (k : Rn d bc bs mX13_setAside 3 [some (vR r0), some (vI 7)] [] h n Q) : Rn d (bc) (bs) mX13_setAside 0 [some (vR r0), l1] [] h n Q := by
  refine Rn_bipush dX13_setAside_0 rfl ?_
  refine Rn_istore_n dX13_setAside_2 rfl (Nat.le_of_ble_eq_true rfl) rfl rfl ?_
  exact k
theorem BX13_setAside_3 {d bc bs : Nat} {h : aH} {n : Nat} {Q : aQ} {r0 : Option Nat} {x1 : Int} (kt : 83 ≤ x1 → Rn d bc bs mX13_setAside 27 [some (vR r0), some (vI x1)] [] h n Q) (kf : x1 < 83 → Rn d bc bs mX13_setAside 9 [some (vR r0), some (vI x1)] [] h n Q) : Rn d (bc) (bs) mX13_setAside 3 [some (vR r0), some (vI x1)] [] h n Q := by
  refine Rn_iload_n dX13_setAside_3 rfl rfl ?_
  refine Rn_bipush dX13_setAside_4 rfl ?_
  refine Rn_icmpge (tgt := 27) dX13_setAside_6 rfl ?_ ?_
  · exact kt
  · exact kf
theorem BX13_setAside_9 {d bc bs : Nat} {h : aH} {n : Nat} {Q : aQ} {ar0 at3 at5 : Nat} {x1 v9 : Int} {f1 : List aV} {w7 w12 : List Int} (h2 : h ar0 = cO 13 f1) (g4 : f1[25]? = some (vR (some at3))) (g6 : f1[0]? = some (vR (some at5))) (h8 : h at5 = cI w7) (i10 : 0 ≤ x1) (g11 : w7[(x1 : Int).toNat]? = some v9) (h13 : h at3 = cI w12) (j14 : x1 < w12.length) (z15 : at3 ≠ 0) (k : Rn d bc bs mX13_setAside 21 [some (vR (some ar0)), some (vI x1)] [] (up h at3 (cI (w12.set (x1 : Int).toNat v9))) n Q) : Rn d (bc) (bs) mX13_setAside 9 [some (vR (some ar0)), some (vI x1)] [] h n Q := by
  refine Rn_aload_n dX13_setAside_9 rfl rfl rfl ?_
  refine Rn_getfield (ci := 13) (k := 25) dX13_setAside_10 rfl in_13 (Nat.le_of_ble_eq_true rfl) wd_1377 rfl h2 g4 ?_
  refine Rn_iload_n dX13_setAside_13 rfl rfl ?_
  refine Rn_aload_n dX13_setAside_14 rfl rfl rfl ?_
  refine Rn_getfield (ci := 13) (k := 0) dX13_setAside_15 rfl in_13 (Nat.le_of_ble_eq_true rfl) wd_1352 rfl h2 g6 ?_
  refine Rn_iload_n dX13_setAside_18 rfl rfl ?_
  refine Rn_iaload dX13_setAside_19 h8 i10 g11 ?_
  refine Rn_iastore dX13_setAside_20 z15 h13 i10 j14 ?_
  exact k
theorem BX13_setAside_21 {d bc bs : Nat} {h : aH} {n : Nat} {Q : aQ} {r0 : Option Nat} {x1 : Int} (b1 : -2147483648 ≤ x1 + 1 ∧ x1 + 1 < 2147483648) (k : Rn d bc bs mX13_setAside 3 [some (vR r0), some (vI (x1 + 1))] [] h n Q) : Rn d (bc) (bs) mX13_setAside 21 [some (vR r0), some (vI x1)] [] h n Q := by
  refine Rn_iinc dX13_setAside_21 rfl (Nat.le_of_ble_eq_true rfl) rfl rfl rfl ?_
  rw [w32_id b1.1 b1.2]
  refine Rn_goto (tgt := 3) dX13_setAside_24 rfl ?_
  exact k
theorem BX13_setAside_27 {d bc bs : Nat} {h : aH} {n : Nat} {Q : aQ} {ar0 : Nat} {x1 : Int} {f1 : List aV} (h2 : h ar0 = cO 13 f1) (m3 : 23 < f1.length) (k : Rn d bc bs mX13_setAside 32 [some (vR (some ar0)), some (vI x1)] [] (up h ar0 (cO 13 (f1.set 23 (vI 0)))) n Q) : Rn d (bc) (bs) mX13_setAside 27 [some (vR (some ar0)), some (vI x1)] [] h n Q := by
  refine Rn_aload_n dX13_setAside_27 rfl rfl rfl ?_
  refine Rn_iconst dX13_setAside_28 rfl ?_
  refine Rn_putfield (ci := 13) (k := 23) dX13_setAside_29 rfl in_13 tyX13_ok nmX13 (Nat.le_of_ble_eq_true rfl) wd_1375 rfl (Or.inl rfl) (show (0 : Int) = 0 ∨ (0 : Int) = 1 by decide) m3 h2 ?_
  exact k
theorem BX13_setAside_32 {d bc bs : Nat} {h : aH} {n : Nat} {Q : aQ} {r0 : Option Nat} {x1 : Int} (k : Q none h n) : Rn d (bc) (bs) mX13_setAside 32 [some (vR r0), some (vI x1)] [] h n Q := by
  exact Rn_return rfl dX13_setAside_32 k
theorem dX13_putBack_0 : decode cX13_putBack 0 = .ok (.bipush 7, 2) := by decide +kernel
theorem dX13_putBack_2 : decode cX13_putBack 2 = .ok (.istore_n 1, 1) := by decide +kernel
theorem dX13_putBack_3 : decode cX13_putBack 3 = .ok (.iload_n 1, 1) := by decide +kernel
theorem dX13_putBack_4 : decode cX13_putBack 4 = .ok (.bipush 83, 2) := by decide +kernel
theorem dX13_putBack_6 : decode cX13_putBack 6 = .ok (.if_icmp .ge 21, 3) := by decide +kernel
theorem dX13_putBack_9 : decode cX13_putBack 9 = .ok (.aload_n 0, 1) := by decide +kernel
theorem dX13_putBack_10 : decode cX13_putBack 10 = .ok (.getfield 7, 3) := by decide +kernel
theorem dX13_putBack_13 : decode cX13_putBack 13 = .ok (.iload_n 1, 1) := by decide +kernel
theorem dX13_putBack_14 : decode cX13_putBack 14 = .ok (.aload_n 0, 1) := by decide +kernel
theorem dX13_putBack_15 : decode cX13_putBack 15 = .ok (.getfield 47, 3) := by decide +kernel
theorem dX13_putBack_18 : decode cX13_putBack 18 = .ok (.iload_n 1, 1) := by decide +kernel
theorem dX13_putBack_19 : decode cX13_putBack 19 = .ok (.iaload, 1) := by decide +kernel
theorem dX13_putBack_20 : decode cX13_putBack 20 = .ok (.iastore, 1) := by decide +kernel
theorem dX13_putBack_21 : decode cX13_putBack 21 = .ok (.iinc 1 1, 3) := by decide +kernel
theorem dX13_putBack_24 : decode cX13_putBack 24 = .ok (.goto (-21), 3) := by decide +kernel
theorem dX13_putBack_27 : decode cX13_putBack 27 = .ok (.aload_n 0, 1) := by decide +kernel
theorem dX13_putBack_28 : decode cX13_putBack 28 = .ok (.iconst 1, 1) := by decide +kernel
theorem dX13_putBack_29 : decode cX13_putBack 29 = .ok (.putfield 43, 3) := by decide +kernel
theorem dX13_putBack_32 : decode cX13_putBack 32 = .ok (.return_, 1) := by decide +kernel
theorem BX13_putBack_0 {d bc bs : Nat} {h : aH} {n : Nat} {Q : aQ} {r0 : Option Nat} {l1 : Option aV} (k : Rn d bc bs mX13_putBack 3 [some (vR r0), some (vI 7)] [] h n Q) : Rn d (bc) (bs) mX13_putBack 0 [some (vR r0), l1] [] h n Q := by
  refine Rn_bipush dX13_putBack_0 rfl ?_
  refine Rn_istore_n dX13_putBack_2 rfl (Nat.le_of_ble_eq_true rfl) rfl rfl ?_
  exact k
theorem BX13_putBack_3 {d bc bs : Nat} {h : aH} {n : Nat} {Q : aQ} {r0 : Option Nat} {x1 : Int} (kt : 83 ≤ x1 → Rn d bc bs mX13_putBack 27 [some (vR r0), some (vI x1)] [] h n Q) (kf : x1 < 83 → Rn d bc bs mX13_putBack 9 [some (vR r0), some (vI x1)] [] h n Q) : Rn d (bc) (bs) mX13_putBack 3 [some (vR r0), some (vI x1)] [] h n Q := by
  refine Rn_iload_n dX13_putBack_3 rfl rfl ?_
  refine Rn_bipush dX13_putBack_4 rfl ?_
  refine Rn_icmpge (tgt := 27) dX13_putBack_6 rfl ?_ ?_
  · exact kt
  · exact kf
theorem BX13_putBack_9 {d bc bs : Nat} {h : aH} {n : Nat} {Q : aQ} {ar0 at3 at5 : Nat} {x1 v9 : Int} {f1 : List aV} {w7 w12 : List Int} (h2 : h ar0 = cO 13 f1) (g4 : f1[0]? = some (vR (some at3))) (g6 : f1[25]? = some (vR (some at5))) (h8 : h at5 = cI w7) (i10 : 0 ≤ x1) (g11 : w7[(x1 : Int).toNat]? = some v9) (h13 : h at3 = cI w12) (j14 : x1 < w12.length) (z15 : at3 ≠ 0) (k : Rn d bc bs mX13_putBack 21 [some (vR (some ar0)), some (vI x1)] [] (up h at3 (cI (w12.set (x1 : Int).toNat v9))) n Q) : Rn d (bc) (bs) mX13_putBack 9 [some (vR (some ar0)), some (vI x1)] [] h n Q := by
  refine Rn_aload_n dX13_putBack_9 rfl rfl rfl ?_
  refine Rn_getfield (ci := 13) (k := 0) dX13_putBack_10 rfl in_13 (Nat.le_of_ble_eq_true rfl) wd_1352 rfl h2 g4 ?_
  refine Rn_iload_n dX13_putBack_13 rfl rfl ?_
  refine Rn_aload_n dX13_putBack_14 rfl rfl rfl ?_
  refine Rn_getfield (ci := 13) (k := 25) dX13_putBack_15 rfl in_13 (Nat.le_of_ble_eq_true rfl) wd_1377 rfl h2 g6 ?_
  refine Rn_iload_n dX13_putBack_18 rfl rfl ?_
  refine Rn_iaload dX13_putBack_19 h8 i10 g11 ?_
  refine Rn_iastore dX13_putBack_20 z15 h13 i10 j14 ?_
  exact k
theorem BX13_putBack_21 {d bc bs : Nat} {h : aH} {n : Nat} {Q : aQ} {r0 : Option Nat} {x1 : Int} (b1 : -2147483648 ≤ x1 + 1 ∧ x1 + 1 < 2147483648) (k : Rn d bc bs mX13_putBack 3 [some (vR r0), some (vI (x1 + 1))] [] h n Q) : Rn d (bc) (bs) mX13_putBack 21 [some (vR r0), some (vI x1)] [] h n Q := by
  refine Rn_iinc dX13_putBack_21 rfl (Nat.le_of_ble_eq_true rfl) rfl rfl rfl ?_
  rw [w32_id b1.1 b1.2]
  refine Rn_goto (tgt := 3) dX13_putBack_24 rfl ?_
  exact k
theorem BX13_putBack_27 {d bc bs : Nat} {h : aH} {n : Nat} {Q : aQ} {ar0 : Nat} {x1 : Int} {f1 : List aV} (h2 : h ar0 = cO 13 f1) (m3 : 23 < f1.length) (k : Rn d bc bs mX13_putBack 32 [some (vR (some ar0)), some (vI x1)] [] (up h ar0 (cO 13 (f1.set 23 (vI 1)))) n Q) : Rn d (bc) (bs) mX13_putBack 27 [some (vR (some ar0)), some (vI x1)] [] h n Q := by
  refine Rn_aload_n dX13_putBack_27 rfl rfl rfl ?_
  refine Rn_iconst dX13_putBack_28 rfl ?_
  refine Rn_putfield (ci := 13) (k := 23) dX13_putBack_29 rfl in_13 tyX13_ok nmX13 (Nat.le_of_ble_eq_true rfl) wd_1375 rfl (Or.inl rfl) (show (1 : Int) = 0 ∨ (1 : Int) = 1 by decide) m3 h2 ?_
  exact k
theorem BX13_putBack_32 {d bc bs : Nat} {h : aH} {n : Nat} {Q : aQ} {r0 : Option Nat} {x1 : Int} (k : Q none h n) : Rn d (bc) (bs) mX13_putBack 32 [some (vR r0), some (vI x1)] [] h n Q := by
  exact Rn_return rfl dX13_putBack_32 k
theorem dX13_foretold_0 : decode cX13_foretold 0 = .ok (.iload_n 1, 1) := by decide +kernel
theorem dX13_foretold_1 : decode cX13_foretold 1 = .ok (.iconst 1, 1) := by decide +kernel
theorem dX13_foretold_2 : decode cX13_foretold 2 = .ok (.bipush 60, 2) := by decide +kernel
theorem dX13_foretold_4 : decode cX13_foretold 4 = .ok (.invokestatic 72, 3) := by decide +kernel
theorem dX13_foretold_7 : decode cX13_foretold 7 = .ok (.ifCond .eq 20, 3) := by decide +kernel
theorem dX13_foretold_10 : decode cX13_foretold 10 = .ok (.aload_n 0, 1) := by decide +kernel
theorem dX13_foretold_11 : decode cX13_foretold 11 = .ok (.iload_n 2, 1) := by decide +kernel
theorem dX13_foretold_12 : decode cX13_foretold 12 = .ok (.invokevirtual 76, 3) := by decide +kernel
theorem dX13_foretold_15 : decode cX13_foretold 15 = .ok (.ifCond .eq 12, 3) := by decide +kernel
theorem dX13_foretold_18 : decode cX13_foretold 18 = .ok (.iload_n 3, 1) := by decide +kernel
theorem dX13_foretold_19 : decode cX13_foretold 19 = .ok (.iconst 0, 1) := by decide +kernel
theorem dX13_foretold_20 : decode cX13_foretold 20 = .ok (.iconst 2, 1) := by decide +kernel
theorem dX13_foretold_21 : decode cX13_foretold 21 = .ok (.invokestatic 72, 3) := by decide +kernel
theorem dX13_foretold_24 : decode cX13_foretold 24 = .ok (.ifCond .ne 5, 3) := by decide +kernel
theorem dX13_foretold_27 : decode cX13_foretold 27 = .ok (.iconst (-1), 1) := by decide +kernel
theorem dX13_foretold_28 : decode cX13_foretold 28 = .ok (.ireturn, 1) := by decide +kernel
theorem dX13_foretold_29 : decode cX13_foretold 29 = .ok (.aload_n 0, 1) := by decide +kernel
theorem dX13_foretold_30 : decode cX13_foretold 30 = .ok (.invokevirtual 403, 3) := by decide +kernel
theorem dX13_foretold_33 : decode cX13_foretold 33 = .ok (.iconst 0, 1) := by decide +kernel
theorem dX13_foretold_34 : decode cX13_foretold 34 = .ok (.istore 4, 2) := by decide +kernel
theorem dX13_foretold_36 : decode cX13_foretold 36 = .ok (.iload 4, 2) := by decide +kernel
theorem dX13_foretold_38 : decode cX13_foretold 38 = .ok (.iload_n 1, 1) := by decide +kernel
theorem dX13_foretold_39 : decode cX13_foretold 39 = .ok (.if_icmp .ge 26, 3) := by decide +kernel
theorem dX13_foretold_42 : decode cX13_foretold 42 = .ok (.aload_n 0, 1) := by decide +kernel
theorem dX13_foretold_43 : decode cX13_foretold 43 = .ok (.getfield 7, 3) := by decide +kernel
theorem dX13_foretold_46 : decode cX13_foretold 46 = .ok (.bipush 7, 2) := by decide +kernel
theorem dX13_foretold_48 : decode cX13_foretold 48 = .ok (.iaload, 1) := by decide +kernel
theorem dX13_foretold_49 : decode cX13_foretold 49 = .ok (.sipush 9999, 3) := by decide +kernel
theorem dX13_foretold_52 : decode cX13_foretold 52 = .ok (.if_icmp .ge 7, 3) := by decide +kernel
theorem dX13_foretold_55 : decode cX13_foretold 55 = .ok (.aload_n 0, 1) := by decide +kernel
theorem dX13_foretold_56 : decode cX13_foretold 56 = .ok (.invokevirtual 367, 3) := by decide +kernel
theorem dX13_foretold_59 : decode cX13_foretold 59 = .ok (.iinc 4 1, 3) := by decide +kernel
theorem dX13_foretold_62 : decode cX13_foretold 62 = .ok (.goto (-26), 3) := by decide +kernel
theorem dX13_foretold_65 : decode cX13_foretold 65 = .ok (.aload_n 0, 1) := by decide +kernel
theorem dX13_foretold_66 : decode cX13_foretold 66 = .ok (.iload_n 2, 1) := by decide +kernel
theorem dX13_foretold_67 : decode cX13_foretold 67 = .ok (.iconst 2, 1) := by decide +kernel
theorem dX13_foretold_68 : decode cX13_foretold 68 = .ok (.iload_n 3, 1) := by decide +kernel
theorem dX13_foretold_69 : decode cX13_foretold 69 = .ok (.iadd, 1) := by decide +kernel
theorem dX13_foretold_70 : decode cX13_foretold 70 = .ok (.invokevirtual 80, 3) := by decide +kernel
theorem dX13_foretold_73 : decode cX13_foretold 73 = .ok (.istore 4, 2) := by decide +kernel
theorem dX13_foretold_75 : decode cX13_foretold 75 = .ok (.aload_n 0, 1) := by decide +kernel
theorem dX13_foretold_76 : decode cX13_foretold 76 = .ok (.invokevirtual 406, 3) := by decide +kernel
theorem dX13_foretold_79 : decode cX13_foretold 79 = .ok (.iload 4, 2) := by decide +kernel
theorem dX13_foretold_81 : decode cX13_foretold 81 = .ok (.ireturn, 1) := by decide +kernel
theorem BX13_foretold_0 {d bc bs : Nat} {h : aH} {n : Nat} {Q : aQ} {r0 : Option Nat} {x1 x2 x3 : Int} {l4 : Option aV} (k : Rn d 0 0 mX13_isIn 0 [some (vI x1), some (vI 1), some (vI 60)] [] h n (fun v h1 n1 => Rn (d + 1) bc bs mX13_foretold 7 [some (vR r0), some (vI x1), some (vI x2), some (vI x3), l4] (v.toList ++ []) h1 n1 Q)) : Rn (d + 1) (bc) (bs) mX13_foretold 0 [some (vR r0), some (vI x1), some (vI x2), some (vI x3), l4] [] h n Q := by
  refine Rn_iload_n dX13_foretold_0 rfl rfl ?_
  refine Rn_iconst dX13_foretold_1 rfl ?_
  refine Rn_bipush dX13_foretold_2 rfl ?_
  exact Rn_callS (avs := [vI x1, vI 1, vI 60]) (st := []) (bc1 := 0) (bs1 := 0) (bc2 := bc) (bs2 := bs) fx_X13_isIn dX13_foretold_4 (Or.inl wd_1463) wd_1464 rfl (Nat.le_of_ble_eq_true rfl) (Nat.le_of_ble_eq_true rfl) (by omega) (by omega) (ls1 := [some (vI x1), some (vI 1), some (vI 60)]) rfl k
theorem BX13_foretold_7 {d bc bs : Nat} {h : aH} {n : Nat} {Q : aQ} {r0 : Option Nat} {x1 x2 x3 s0 : Int} {l4 : Option aV} (kt : s0 = 0 → Rn d bc bs mX13_foretold 27 [some (vR r0), some (vI x1), some (vI x2), some (vI x3), l4] [] h n Q) (kf : s0 ≠ 0 → Rn d bc bs mX13_foretold 10 [some (vR r0), some (vI x1), some (vI x2), some (vI x3), l4] [] h n Q) : Rn d (bc) (bs) mX13_foretold 7 [some (vR r0), some (vI x1), some (vI x2), some (vI x3), l4] [vI s0] h n Q := by
  refine Rn_ifeq (tgt := 27) dX13_foretold_7 rfl ?_ ?_
  · exact kt
  · exact kf
theorem BX13_foretold_10 {d bc bs : Nat} {h : aH} {n : Nat} {Q : aQ} {ar0 : Nat} {x1 x2 x3 : Int} {l4 : Option aV} {f1 : List aV} (h2 : h ar0 = cO 13 f1) (k : Rn d 0 0 mX13_isBottle 0 [some (vR (some ar0)), some (vI x2)] [] h n (fun v h1 n1 => Rn (d + 1) bc bs mX13_foretold 15 [some (vR (some ar0)), some (vI x1), some (vI x2), some (vI x3), l4] (v.toList ++ []) h1 n1 Q)) : Rn (d + 1) (bc) (bs) mX13_foretold 10 [some (vR (some ar0)), some (vI x1), some (vI x2), some (vI x3), l4] [] h n Q := by
  refine Rn_aload_n dX13_foretold_10 rfl rfl rfl ?_
  refine Rn_iload_n dX13_foretold_11 rfl rfl ?_
  exact Rn_callV (ci := 13) (avs := [vI x2]) (st := []) (bc1 := 0) (bs1 := 0) (bc2 := bc) (bs2 := bs) fx_X13_isBottle dX13_foretold_12 wd_1678 wd_1680 wd_81 rfl h2 rfl (Nat.le_of_ble_eq_true rfl) (Nat.le_of_ble_eq_true rfl) (by omega) (by omega) (ls1 := [some (vR (some ar0)), some (vI x2)]) rfl k
theorem BX13_foretold_15 {d bc bs : Nat} {h : aH} {n : Nat} {Q : aQ} {r0 : Option Nat} {x1 x2 x3 s0 : Int} {l4 : Option aV} (kt : s0 = 0 → Rn d bc bs mX13_foretold 27 [some (vR r0), some (vI x1), some (vI x2), some (vI x3), l4] [] h n Q) (kf : s0 ≠ 0 → Rn d bc bs mX13_foretold 18 [some (vR r0), some (vI x1), some (vI x2), some (vI x3), l4] [] h n Q) : Rn d (bc) (bs) mX13_foretold 15 [some (vR r0), some (vI x1), some (vI x2), some (vI x3), l4] [vI s0] h n Q := by
  refine Rn_ifeq (tgt := 27) dX13_foretold_15 rfl ?_ ?_
  · exact kt
  · exact kf
theorem BX13_foretold_18 {d bc bs : Nat} {h : aH} {n : Nat} {Q : aQ} {r0 : Option Nat} {x1 x2 x3 : Int} {l4 : Option aV} (k : Rn d 0 0 mX13_isIn 0 [some (vI x3), some (vI 0), some (vI 2)] [] h n (fun v h1 n1 => Rn (d + 1) bc bs mX13_foretold 24 [some (vR r0), some (vI x1), some (vI x2), some (vI x3), l4] (v.toList ++ []) h1 n1 Q)) : Rn (d + 1) (bc) (bs) mX13_foretold 18 [some (vR r0), some (vI x1), some (vI x2), some (vI x3), l4] [] h n Q := by
  refine Rn_iload_n dX13_foretold_18 rfl rfl ?_
  refine Rn_iconst dX13_foretold_19 rfl ?_
  refine Rn_iconst dX13_foretold_20 rfl ?_
  exact Rn_callS (avs := [vI x3, vI 0, vI 2]) (st := []) (bc1 := 0) (bs1 := 0) (bc2 := bc) (bs2 := bs) fx_X13_isIn dX13_foretold_21 (Or.inl wd_1463) wd_1464 rfl (Nat.le_of_ble_eq_true rfl) (Nat.le_of_ble_eq_true rfl) (by omega) (by omega) (ls1 := [some (vI x3), some (vI 0), some (vI 2)]) rfl k
theorem BX13_foretold_24 {d bc bs : Nat} {h : aH} {n : Nat} {Q : aQ} {r0 : Option Nat} {x1 x2 x3 s0 : Int} {l4 : Option aV} (kt : s0 ≠ 0 → Rn d bc bs mX13_foretold 29 [some (vR r0), some (vI x1), some (vI x2), some (vI x3), l4] [] h n Q) (kf : s0 = 0 → Rn d bc bs mX13_foretold 27 [some (vR r0), some (vI x1), some (vI x2), some (vI x3), l4] [] h n Q) : Rn d (bc) (bs) mX13_foretold 24 [some (vR r0), some (vI x1), some (vI x2), some (vI x3), l4] [vI s0] h n Q := by
  refine Rn_ifne (tgt := 29) dX13_foretold_24 rfl ?_ ?_
  · exact kt
  · exact kf
theorem BX13_foretold_27 {d bc bs : Nat} {h : aH} {n : Nat} {Q : aQ} {r0 : Option Nat} {x1 x2 x3 : Int} {l4 : Option aV} (k : Q (some (vI (-1))) h n) : Rn d (bc) (bs) mX13_foretold 27 [some (vR r0), some (vI x1), some (vI x2), some (vI x3), l4] [] h n Q := by
  refine Rn_iconst dX13_foretold_27 rfl ?_
  exact Rn_ireturn rfl dX13_foretold_28 k
theorem BX13_foretold_29 {d bc bs : Nat} {h : aH} {n : Nat} {Q : aQ} {ar0 : Nat} {x1 x2 x3 : Int} {l4 : Option aV} {f1 : List aV} (h2 : h ar0 = cO 13 f1) (k : Rn d 0 0 mX13_setAside 0 [some (vR (some ar0)), none] [] h n (fun v h1 n1 => Rn (d + 1) bc bs mX13_foretold 33 [some (vR (some ar0)), some (vI x1), some (vI x2), some (vI x3), l4] (v.toList ++ []) h1 n1 Q)) : Rn (d + 1) (bc) (bs) mX13_foretold 29 [some (vR (some ar0)), some (vI x1), some (vI x2), some (vI x3), l4] [] h n Q := by
  refine Rn_aload_n dX13_foretold_29 rfl rfl rfl ?_
  exact Rn_callV (ci := 13) (avs := []) (st := []) (bc1 := 0) (bs1 := 0) (bc2 := bc) (bs2 := bs) fx_X13_setAside dX13_foretold_30 wd_1862 wd_1864 wd_105 rfl h2 rfl (Nat.le_of_ble_eq_true rfl) (Nat.le_of_ble_eq_true rfl) (by omega) (by omega) (ls1 := [some (vR (some ar0)), none]) rfl k
theorem BX13_foretold_33 {d bc bs : Nat} {h : aH} {n : Nat} {Q : aQ} {r0 : Option Nat} {x1 x2 x3 : Int} {l4 : Option aV} (k : Rn d bc bs mX13_foretold 36 [some (vR r0), some (vI x1), some (vI x2), some (vI x3), some (vI 0)] [] h n Q) : Rn d (bc) (bs) mX13_foretold 33 [some (vR r0), some (vI x1), some (vI x2), some (vI x3), l4] [] h n Q := by
  refine Rn_iconst dX13_foretold_33 rfl ?_
  refine Rn_istore dX13_foretold_34 (Nat.le_of_ble_eq_true rfl) rfl rfl ?_
  exact k
theorem BX13_foretold_36 {d bc bs : Nat} {h : aH} {n : Nat} {Q : aQ} {r0 : Option Nat} {x1 x2 x3 x4 : Int} (kt : x1 ≤ x4 → Rn d bc bs mX13_foretold 65 [some (vR r0), some (vI x1), some (vI x2), some (vI x3), some (vI x4)] [] h n Q) (kf : x4 < x1 → Rn d bc bs mX13_foretold 42 [some (vR r0), some (vI x1), some (vI x2), some (vI x3), some (vI x4)] [] h n Q) : Rn d (bc) (bs) mX13_foretold 36 [some (vR r0), some (vI x1), some (vI x2), some (vI x3), some (vI x4)] [] h n Q := by
  refine Rn_iload dX13_foretold_36 rfl ?_
  refine Rn_iload_n dX13_foretold_38 rfl rfl ?_
  refine Rn_icmpge (tgt := 65) dX13_foretold_39 rfl ?_ ?_
  · exact kt
  · exact kf
theorem BX13_foretold_42 {d bc bs : Nat} {h : aH} {n : Nat} {Q : aQ} {ar0 at3 : Nat} {x1 x2 x3 x4 v7 : Int} {f1 : List aV} {w5 : List Int} (h2 : h ar0 = cO 13 f1) (g4 : f1[0]? = some (vR (some at3))) (h6 : h at3 = cI w5) (g8 : w5[(7 : Int).toNat]? = some v7) (kt : 9999 ≤ v7 → Rn d bc bs mX13_foretold 59 [some (vR (some ar0)), some (vI x1), some (vI x2), some (vI x3), some (vI x4)] [] h n Q) (kf : v7 < 9999 → Rn d bc bs mX13_foretold 55 [some (vR (some ar0)), some (vI x1), some (vI x2), some (vI x3), some (vI x4)] [] h n Q) : Rn d (bc) (bs) mX13_foretold 42 [some (vR (some ar0)), some (vI x1), some (vI x2), some (vI x3), some (vI x4)] [] h n Q := by
  refine Rn_aload_n dX13_foretold_42 rfl rfl rfl ?_
  refine Rn_getfield (ci := 13) (k := 0) dX13_foretold_43 rfl in_13 (Nat.le_of_ble_eq_true rfl) wd_1352 rfl h2 g4 ?_
  refine Rn_bipush dX13_foretold_46 rfl ?_
  refine Rn_iaload dX13_foretold_48 h6 (by decide) g8 ?_
  refine Rn_sipush dX13_foretold_49 rfl ?_
  refine Rn_icmpge (tgt := 59) dX13_foretold_52 rfl ?_ ?_
  · exact kt
  · exact kf
theorem BX13_foretold_55 {d bc bs : Nat} {h : aH} {n : Nat} {Q : aQ} {ar0 : Nat} {x1 x2 x3 x4 : Int} {f1 : List aV} (h2 : h ar0 = cO 13 f1) (k : Rn d 0 0 mX13_pass 0 [some (vR (some ar0)), none] [] h n (fun v h1 n1 => Rn (d + 1) bc bs mX13_foretold 59 [some (vR (some ar0)), some (vI x1), some (vI x2), some (vI x3), some (vI x4)] (v.toList ++ []) h1 n1 Q)) : Rn (d + 1) (bc) (bs) mX13_foretold 55 [some (vR (some ar0)), some (vI x1), some (vI x2), some (vI x3), some (vI x4)] [] h n Q := by
  refine Rn_aload_n dX13_foretold_55 rfl rfl rfl ?_
  exact Rn_callV (ci := 13) (avs := []) (st := []) (bc1 := 0) (bs1 := 0) (bc2 := bc) (bs2 := bs) fx_X13_pass dX13_foretold_56 wd_1714 wd_1716 wd_88 rfl h2 rfl (Nat.le_of_ble_eq_true rfl) (Nat.le_of_ble_eq_true rfl) (by omega) (by omega) (ls1 := [some (vR (some ar0)), none]) rfl k
theorem BX13_foretold_59 {d bc bs : Nat} {h : aH} {n : Nat} {Q : aQ} {r0 : Option Nat} {x1 x2 x3 x4 : Int} (b1 : -2147483648 ≤ x4 + 1 ∧ x4 + 1 < 2147483648) (k : Rn d bc bs mX13_foretold 36 [some (vR r0), some (vI x1), some (vI x2), some (vI x3), some (vI (x4 + 1))] [] h n Q) : Rn d (bc) (bs) mX13_foretold 59 [some (vR r0), some (vI x1), some (vI x2), some (vI x3), some (vI x4)] [] h n Q := by
  refine Rn_iinc dX13_foretold_59 rfl (Nat.le_of_ble_eq_true rfl) rfl rfl rfl ?_
  rw [w32_id b1.1 b1.2]
  refine Rn_goto (tgt := 36) dX13_foretold_62 rfl ?_
  exact k
theorem BX13_foretold_65 {d bc bs : Nat} {h : aH} {n : Nat} {Q : aQ} {ar0 : Nat} {x1 x2 x3 x4 : Int} {f2 : List aV} (b1 : -2147483648 ≤ 2 + x3 ∧ 2 + x3 < 2147483648) (h3 : h ar0 = cO 13 f2) (k : Rn d 0 0 mX13_get 0 [some (vR (some ar0)), some (vI x2), some (vI (2 + x3))] [] h n (fun v h1 n1 => Rn (d + 1) bc bs mX13_foretold 73 [some (vR (some ar0)), some (vI x1), some (vI x2), some (vI x3), some (vI x4)] (v.toList ++ []) h1 n1 Q)) : Rn (d + 1) (bc) (bs) mX13_foretold 65 [some (vR (some ar0)), some (vI x1), some (vI x2), some (vI x3), some (vI x4)] [] h n Q := by
  refine Rn_aload_n dX13_foretold_65 rfl rfl rfl ?_
  refine Rn_iload_n dX13_foretold_66 rfl rfl ?_
  refine Rn_iconst dX13_foretold_67 rfl ?_
  refine Rn_iload_n dX13_foretold_68 rfl rfl ?_
  refine Rn_iadd dX13_foretold_69 ?_
  rw [w32_id b1.1 b1.2]
  exact Rn_callV (ci := 13) (avs := [vI x2, vI (2 + x3)]) (st := []) (bc1 := 0) (bs1 := 0) (bc2 := bc) (bs2 := bs) fx_X13_get dX13_foretold_70 wd_1682 wd_1684 wd_82 rfl h3 rfl (Nat.le_of_ble_eq_true rfl) (Nat.le_of_ble_eq_true rfl) (by omega) (by omega) (ls1 := [some (vR (some ar0)), some (vI x2), some (vI (2 + x3))]) rfl k
theorem BX13_foretold_73 {d bc bs : Nat} {h : aH} {n : Nat} {Q : aQ} {ar0 : Nat} {x1 x2 x3 x4 s0 : Int} {f1 : List aV} (h2 : h ar0 = cO 13 f1) (k : Rn d 0 0 mX13_putBack 0 [some (vR (some ar0)), none] [] h n (fun v h1 n1 => Rn (d + 1) bc bs mX13_foretold 79 [some (vR (some ar0)), some (vI x1), some (vI x2), some (vI x3), some (vI s0)] (v.toList ++ []) h1 n1 Q)) : Rn (d + 1) (bc) (bs) mX13_foretold 73 [some (vR (some ar0)), some (vI x1), some (vI x2), some (vI x3), some (vI x4)] [vI s0] h n Q := by
  refine Rn_istore dX13_foretold_73 (Nat.le_of_ble_eq_true rfl) rfl rfl ?_
  refine Rn_aload_n dX13_foretold_75 rfl rfl rfl ?_
  exact Rn_callV (ci := 13) (avs := []) (st := []) (bc1 := 0) (bs1 := 0) (bc2 := bc) (bs2 := bs) fx_X13_putBack dX13_foretold_76 wd_1866 wd_1868 wd_106 rfl h2 rfl (Nat.le_of_ble_eq_true rfl) (Nat.le_of_ble_eq_true rfl) (by omega) (by omega) (ls1 := [some (vR (some ar0)), none]) rfl k
theorem BX13_foretold_79 {d bc bs : Nat} {h : aH} {n : Nat} {Q : aQ} {r0 : Option Nat} {x1 x2 x3 x4 : Int} (k : Q (some (vI x4)) h n) : Rn d (bc) (bs) mX13_foretold 79 [some (vR r0), some (vI x1), some (vI x2), some (vI x3), some (vI x4)] [] h n Q := by
  refine Rn_iload dX13_foretold_79 rfl ?_
  exact Rn_ireturn rfl dX13_foretold_81 k
theorem dX13_ends_0 : decode cX13_ends 0 = .ok (.aload_n 0, 1) := by decide +kernel
theorem dX13_ends_1 : decode cX13_ends 1 = .ok (.iload_n 1, 1) := by decide +kernel
theorem dX13_ends_2 : decode cX13_ends 2 = .ok (.invokevirtual 296, 3) := by decide +kernel
theorem dX13_ends_5 : decode cX13_ends 5 = .ok (.ifCond .ne 5, 3) := by decide +kernel
theorem dX13_ends_8 : decode cX13_ends 8 = .ok (.iconst (-1), 1) := by decide +kernel
theorem dX13_ends_9 : decode cX13_ends 9 = .ok (.ireturn, 1) := by decide +kernel
theorem dX13_ends_10 : decode cX13_ends 10 = .ok (.aload_n 0, 1) := by decide +kernel
theorem dX13_ends_11 : decode cX13_ends 11 = .ok (.invokevirtual 403, 3) := by decide +kernel
theorem dX13_ends_14 : decode cX13_ends 14 = .ok (.iconst 0, 1) := by decide +kernel
theorem dX13_ends_15 : decode cX13_ends 15 = .ok (.istore_n 2, 1) := by decide +kernel
theorem dX13_ends_16 : decode cX13_ends 16 = .ok (.iload_n 2, 1) := by decide +kernel
theorem dX13_ends_17 : decode cX13_ends 17 = .ok (.bipush 60, 2) := by decide +kernel
theorem dX13_ends_19 : decode cX13_ends 19 = .ok (.if_icmp .ge 34, 3) := by decide +kernel
theorem dX13_ends_22 : decode cX13_ends 22 = .ok (.aload_n 0, 1) := by decide +kernel
theorem dX13_ends_23 : decode cX13_ends 23 = .ok (.getfield 7, 3) := by decide +kernel
theorem dX13_ends_26 : decode cX13_ends 26 = .ok (.bipush 7, 2) := by decide +kernel
theorem dX13_ends_28 : decode cX13_ends 28 = .ok (.iaload, 1) := by decide +kernel
theorem dX13_ends_29 : decode cX13_ends 29 = .ok (.sipush 9999, 3) := by decide +kernel
theorem dX13_ends_32 : decode cX13_ends 32 = .ok (.if_icmp .ge 21, 3) := by decide +kernel
theorem dX13_ends_35 : decode cX13_ends 35 = .ok (.aload_n 0, 1) := by decide +kernel
theorem dX13_ends_36 : decode cX13_ends 36 = .ok (.iload_n 1, 1) := by decide +kernel
theorem dX13_ends_37 : decode cX13_ends 37 = .ok (.invokevirtual 296, 3) := by decide +kernel
theorem dX13_ends_40 : decode cX13_ends 40 = .ok (.ifCond .eq 13, 3) := by decide +kernel
theorem dX13_ends_43 : decode cX13_ends 43 = .ok (.aload_n 0, 1) := by decide +kernel
theorem dX13_ends_44 : decode cX13_ends 44 = .ok (.invokevirtual 367, 3) := by decide +kernel
theorem dX13_ends_47 : decode cX13_ends 47 = .ok (.iinc 2 1, 3) := by decide +kernel
theorem dX13_ends_50 : decode cX13_ends 50 = .ok (.goto (-34), 3) := by decide +kernel
theorem dX13_ends_53 : decode cX13_ends 53 = .ok (.aload_n 0, 1) := by decide +kernel
theorem dX13_ends_54 : decode cX13_ends 54 = .ok (.iload_n 1, 1) := by decide +kernel
theorem dX13_ends_55 : decode cX13_ends 55 = .ok (.invokevirtual 296, 3) := by decide +kernel
theorem dX13_ends_58 : decode cX13_ends 58 = .ok (.ifCond .eq 7, 3) := by decide +kernel
theorem dX13_ends_61 : decode cX13_ends 61 = .ok (.iconst (-1), 1) := by decide +kernel
theorem dX13_ends_62 : decode cX13_ends 62 = .ok (.goto 4, 3) := by decide +kernel
theorem dX13_ends_65 : decode cX13_ends 65 = .ok (.iload_n 2, 1) := by decide +kernel
theorem dX13_ends_66 : decode cX13_ends 66 = .ok (.istore_n 3, 1) := by decide +kernel
theorem dX13_ends_67 : decode cX13_ends 67 = .ok (.aload_n 0, 1) := by decide +kernel
theorem dX13_ends_68 : decode cX13_ends 68 = .ok (.invokevirtual 406, 3) := by decide +kernel
theorem dX13_ends_71 : decode cX13_ends 71 = .ok (.iload_n 3, 1) := by decide +kernel
theorem dX13_ends_72 : decode cX13_ends 72 = .ok (.ireturn, 1) := by decide +kernel
theorem BX13_ends_0 {d bc bs : Nat} {h : aH} {n : Nat} {Q : aQ} {ar0 : Nat} {x1 : Int} {l2 l3 : Option aV} {f1 : List aV} (h2 : h ar0 = cO 13 f1) (k : Rn d 0 0 mX13_isAfloat 0 [some (vR (some ar0)), some (vI x1)] [] h n (fun v h1 n1 => Rn (d + 1) bc bs mX13_ends 5 [some (vR (some ar0)), some (vI x1), l2, l3] (v.toList ++ []) h1 n1 Q)) : Rn (d + 1) (bc) (bs) mX13_ends 0 [some (vR (some ar0)), some (vI x1), l2, l3] [] h n Q := by
  refine Rn_aload_n dX13_ends_0 rfl rfl rfl ?_
  refine Rn_iload_n dX13_ends_1 rfl rfl ?_
  exact Rn_callV (ci := 13) (avs := [vI x1]) (st := []) (bc1 := 0) (bs1 := 0) (bc2 := bc) (bs2 := bs) fx_X13_isAfloat dX13_ends_2 wd_1674 wd_1676 wd_80 rfl h2 rfl (Nat.le_of_ble_eq_true rfl) (Nat.le_of_ble_eq_true rfl) (by omega) (by omega) (ls1 := [some (vR (some ar0)), some (vI x1)]) rfl k
theorem BX13_ends_5 {d bc bs : Nat} {h : aH} {n : Nat} {Q : aQ} {r0 : Option Nat} {x1 s0 : Int} {l2 l3 : Option aV} (kt : s0 ≠ 0 → Rn d bc bs mX13_ends 10 [some (vR r0), some (vI x1), l2, l3] [] h n Q) (kf : s0 = 0 → Rn d bc bs mX13_ends 8 [some (vR r0), some (vI x1), l2, l3] [] h n Q) : Rn d (bc) (bs) mX13_ends 5 [some (vR r0), some (vI x1), l2, l3] [vI s0] h n Q := by
  refine Rn_ifne (tgt := 10) dX13_ends_5 rfl ?_ ?_
  · exact kt
  · exact kf
theorem BX13_ends_8 {d bc bs : Nat} {h : aH} {n : Nat} {Q : aQ} {r0 : Option Nat} {x1 : Int} {l2 l3 : Option aV} (k : Q (some (vI (-1))) h n) : Rn d (bc) (bs) mX13_ends 8 [some (vR r0), some (vI x1), l2, l3] [] h n Q := by
  refine Rn_iconst dX13_ends_8 rfl ?_
  exact Rn_ireturn rfl dX13_ends_9 k
theorem BX13_ends_10 {d bc bs : Nat} {h : aH} {n : Nat} {Q : aQ} {ar0 : Nat} {x1 : Int} {l2 l3 : Option aV} {f1 : List aV} (h2 : h ar0 = cO 13 f1) (k : Rn d 0 0 mX13_setAside 0 [some (vR (some ar0)), none] [] h n (fun v h1 n1 => Rn (d + 1) bc bs mX13_ends 14 [some (vR (some ar0)), some (vI x1), l2, l3] (v.toList ++ []) h1 n1 Q)) : Rn (d + 1) (bc) (bs) mX13_ends 10 [some (vR (some ar0)), some (vI x1), l2, l3] [] h n Q := by
  refine Rn_aload_n dX13_ends_10 rfl rfl rfl ?_
  exact Rn_callV (ci := 13) (avs := []) (st := []) (bc1 := 0) (bs1 := 0) (bc2 := bc) (bs2 := bs) fx_X13_setAside dX13_ends_11 wd_1862 wd_1864 wd_105 rfl h2 rfl (Nat.le_of_ble_eq_true rfl) (Nat.le_of_ble_eq_true rfl) (by omega) (by omega) (ls1 := [some (vR (some ar0)), none]) rfl k
theorem BX13_ends_14 {d bc bs : Nat} {h : aH} {n : Nat} {Q : aQ} {r0 : Option Nat} {x1 : Int} {l2 l3 : Option aV} (k : Rn d bc bs mX13_ends 16 [some (vR r0), some (vI x1), some (vI 0), l3] [] h n Q) : Rn d (bc) (bs) mX13_ends 14 [some (vR r0), some (vI x1), l2, l3] [] h n Q := by
  refine Rn_iconst dX13_ends_14 rfl ?_
  refine Rn_istore_n dX13_ends_15 rfl (Nat.le_of_ble_eq_true rfl) rfl rfl ?_
  exact k
theorem BX13_ends_16 {d bc bs : Nat} {h : aH} {n : Nat} {Q : aQ} {r0 : Option Nat} {x1 x2 : Int} {l3 : Option aV} (kt : 60 ≤ x2 → Rn d bc bs mX13_ends 53 [some (vR r0), some (vI x1), some (vI x2), l3] [] h n Q) (kf : x2 < 60 → Rn d bc bs mX13_ends 22 [some (vR r0), some (vI x1), some (vI x2), l3] [] h n Q) : Rn d (bc) (bs) mX13_ends 16 [some (vR r0), some (vI x1), some (vI x2), l3] [] h n Q := by
  refine Rn_iload_n dX13_ends_16 rfl rfl ?_
  refine Rn_bipush dX13_ends_17 rfl ?_
  refine Rn_icmpge (tgt := 53) dX13_ends_19 rfl ?_ ?_
  · exact kt
  · exact kf
theorem BX13_ends_22 {d bc bs : Nat} {h : aH} {n : Nat} {Q : aQ} {ar0 at3 : Nat} {x1 x2 v7 : Int} {l3 : Option aV} {f1 : List aV} {w5 : List Int} (h2 : h ar0 = cO 13 f1) (g4 : f1[0]? = some (vR (some at3))) (h6 : h at3 = cI w5) (g8 : w5[(7 : Int).toNat]? = some v7) (kt : 9999 ≤ v7 → Rn d bc bs mX13_ends 53 [some (vR (some ar0)), some (vI x1), some (vI x2), l3] [] h n Q) (kf : v7 < 9999 → Rn d bc bs mX13_ends 35 [some (vR (some ar0)), some (vI x1), some (vI x2), l3] [] h n Q) : Rn d (bc) (bs) mX13_ends 22 [some (vR (some ar0)), some (vI x1), some (vI x2), l3] [] h n Q := by
  refine Rn_aload_n dX13_ends_22 rfl rfl rfl ?_
  refine Rn_getfield (ci := 13) (k := 0) dX13_ends_23 rfl in_13 (Nat.le_of_ble_eq_true rfl) wd_1352 rfl h2 g4 ?_
  refine Rn_bipush dX13_ends_26 rfl ?_
  refine Rn_iaload dX13_ends_28 h6 (by decide) g8 ?_
  refine Rn_sipush dX13_ends_29 rfl ?_
  refine Rn_icmpge (tgt := 53) dX13_ends_32 rfl ?_ ?_
  · exact kt
  · exact kf
theorem BX13_ends_35 {d bc bs : Nat} {h : aH} {n : Nat} {Q : aQ} {ar0 : Nat} {x1 x2 : Int} {l3 : Option aV} {f1 : List aV} (h2 : h ar0 = cO 13 f1) (k : Rn d 0 0 mX13_isAfloat 0 [some (vR (some ar0)), some (vI x1)] [] h n (fun v h1 n1 => Rn (d + 1) bc bs mX13_ends 40 [some (vR (some ar0)), some (vI x1), some (vI x2), l3] (v.toList ++ []) h1 n1 Q)) : Rn (d + 1) (bc) (bs) mX13_ends 35 [some (vR (some ar0)), some (vI x1), some (vI x2), l3] [] h n Q := by
  refine Rn_aload_n dX13_ends_35 rfl rfl rfl ?_
  refine Rn_iload_n dX13_ends_36 rfl rfl ?_
  exact Rn_callV (ci := 13) (avs := [vI x1]) (st := []) (bc1 := 0) (bs1 := 0) (bc2 := bc) (bs2 := bs) fx_X13_isAfloat dX13_ends_37 wd_1674 wd_1676 wd_80 rfl h2 rfl (Nat.le_of_ble_eq_true rfl) (Nat.le_of_ble_eq_true rfl) (by omega) (by omega) (ls1 := [some (vR (some ar0)), some (vI x1)]) rfl k
theorem BX13_ends_40 {d bc bs : Nat} {h : aH} {n : Nat} {Q : aQ} {r0 : Option Nat} {x1 x2 s0 : Int} {l3 : Option aV} (kt : s0 = 0 → Rn d bc bs mX13_ends 53 [some (vR r0), some (vI x1), some (vI x2), l3] [] h n Q) (kf : s0 ≠ 0 → Rn d bc bs mX13_ends 43 [some (vR r0), some (vI x1), some (vI x2), l3] [] h n Q) : Rn d (bc) (bs) mX13_ends 40 [some (vR r0), some (vI x1), some (vI x2), l3] [vI s0] h n Q := by
  refine Rn_ifeq (tgt := 53) dX13_ends_40 rfl ?_ ?_
  · exact kt
  · exact kf
theorem BX13_ends_43 {d bc bs : Nat} {h : aH} {n : Nat} {Q : aQ} {ar0 : Nat} {x1 x2 : Int} {l3 : Option aV} {f1 : List aV} (h2 : h ar0 = cO 13 f1) (k : Rn d 0 0 mX13_pass 0 [some (vR (some ar0)), none] [] h n (fun v h1 n1 => Rn (d + 1) bc bs mX13_ends 47 [some (vR (some ar0)), some (vI x1), some (vI x2), l3] (v.toList ++ []) h1 n1 Q)) : Rn (d + 1) (bc) (bs) mX13_ends 43 [some (vR (some ar0)), some (vI x1), some (vI x2), l3] [] h n Q := by
  refine Rn_aload_n dX13_ends_43 rfl rfl rfl ?_
  exact Rn_callV (ci := 13) (avs := []) (st := []) (bc1 := 0) (bs1 := 0) (bc2 := bc) (bs2 := bs) fx_X13_pass dX13_ends_44 wd_1714 wd_1716 wd_88 rfl h2 rfl (Nat.le_of_ble_eq_true rfl) (Nat.le_of_ble_eq_true rfl) (by omega) (by omega) (ls1 := [some (vR (some ar0)), none]) rfl k
theorem BX13_ends_47 {d bc bs : Nat} {h : aH} {n : Nat} {Q : aQ} {r0 : Option Nat} {x1 x2 : Int} {l3 : Option aV} (b1 : -2147483648 ≤ x2 + 1 ∧ x2 + 1 < 2147483648) (k : Rn d bc bs mX13_ends 16 [some (vR r0), some (vI x1), some (vI (x2 + 1)), l3] [] h n Q) : Rn d (bc) (bs) mX13_ends 47 [some (vR r0), some (vI x1), some (vI x2), l3] [] h n Q := by
  refine Rn_iinc dX13_ends_47 rfl (Nat.le_of_ble_eq_true rfl) rfl rfl rfl ?_
  rw [w32_id b1.1 b1.2]
  refine Rn_goto (tgt := 16) dX13_ends_50 rfl ?_
  exact k
theorem BX13_ends_53 {d bc bs : Nat} {h : aH} {n : Nat} {Q : aQ} {ar0 : Nat} {x1 x2 : Int} {l3 : Option aV} {f1 : List aV} (h2 : h ar0 = cO 13 f1) (k : Rn d 0 0 mX13_isAfloat 0 [some (vR (some ar0)), some (vI x1)] [] h n (fun v h1 n1 => Rn (d + 1) bc bs mX13_ends 58 [some (vR (some ar0)), some (vI x1), some (vI x2), l3] (v.toList ++ []) h1 n1 Q)) : Rn (d + 1) (bc) (bs) mX13_ends 53 [some (vR (some ar0)), some (vI x1), some (vI x2), l3] [] h n Q := by
  refine Rn_aload_n dX13_ends_53 rfl rfl rfl ?_
  refine Rn_iload_n dX13_ends_54 rfl rfl ?_
  exact Rn_callV (ci := 13) (avs := [vI x1]) (st := []) (bc1 := 0) (bs1 := 0) (bc2 := bc) (bs2 := bs) fx_X13_isAfloat dX13_ends_55 wd_1674 wd_1676 wd_80 rfl h2 rfl (Nat.le_of_ble_eq_true rfl) (Nat.le_of_ble_eq_true rfl) (by omega) (by omega) (ls1 := [some (vR (some ar0)), some (vI x1)]) rfl k
theorem BX13_ends_58 {d bc bs : Nat} {h : aH} {n : Nat} {Q : aQ} {r0 : Option Nat} {x1 x2 s0 : Int} {l3 : Option aV} (kt : s0 = 0 → Rn d bc bs mX13_ends 65 [some (vR r0), some (vI x1), some (vI x2), l3] [] h n Q) (kf : s0 ≠ 0 → Rn d bc bs mX13_ends 61 [some (vR r0), some (vI x1), some (vI x2), l3] [] h n Q) : Rn d (bc) (bs) mX13_ends 58 [some (vR r0), some (vI x1), some (vI x2), l3] [vI s0] h n Q := by
  refine Rn_ifeq (tgt := 65) dX13_ends_58 rfl ?_ ?_
  · exact kt
  · exact kf
theorem BX13_ends_61 {d bc bs : Nat} {h : aH} {n : Nat} {Q : aQ} {ar0 : Nat} {x1 x2 : Int} {l3 : Option aV} {f1 : List aV} (h2 : h ar0 = cO 13 f1) (k : Rn d 0 0 mX13_putBack 0 [some (vR (some ar0)), none] [] h n (fun v h1 n1 => Rn (d + 1) bc bs mX13_ends 71 [some (vR (some ar0)), some (vI x1), some (vI x2), some (vI (-1))] (v.toList ++ []) h1 n1 Q)) : Rn (d + 1) (bc) (bs) mX13_ends 61 [some (vR (some ar0)), some (vI x1), some (vI x2), l3] [] h n Q := by
  refine Rn_iconst dX13_ends_61 rfl ?_
  refine Rn_goto (tgt := 66) dX13_ends_62 rfl ?_
  refine Rn_istore_n dX13_ends_66 rfl (Nat.le_of_ble_eq_true rfl) rfl rfl ?_
  refine Rn_aload_n dX13_ends_67 rfl rfl rfl ?_
  exact Rn_callV (ci := 13) (avs := []) (st := []) (bc1 := 0) (bs1 := 0) (bc2 := bc) (bs2 := bs) fx_X13_putBack dX13_ends_68 wd_1866 wd_1868 wd_106 rfl h2 rfl (Nat.le_of_ble_eq_true rfl) (Nat.le_of_ble_eq_true rfl) (by omega) (by omega) (ls1 := [some (vR (some ar0)), none]) rfl k
theorem BX13_ends_65 {d bc bs : Nat} {h : aH} {n : Nat} {Q : aQ} {ar0 : Nat} {x1 x2 : Int} {l3 : Option aV} {f1 : List aV} (h2 : h ar0 = cO 13 f1) (k : Rn d 0 0 mX13_putBack 0 [some (vR (some ar0)), none] [] h n (fun v h1 n1 => Rn (d + 1) bc bs mX13_ends 71 [some (vR (some ar0)), some (vI x1), some (vI x2), some (vI x2)] (v.toList ++ []) h1 n1 Q)) : Rn (d + 1) (bc) (bs) mX13_ends 65 [some (vR (some ar0)), some (vI x1), some (vI x2), l3] [] h n Q := by
  refine Rn_iload_n dX13_ends_65 rfl rfl ?_
  refine Rn_istore_n dX13_ends_66 rfl (Nat.le_of_ble_eq_true rfl) rfl rfl ?_
  refine Rn_aload_n dX13_ends_67 rfl rfl rfl ?_
  exact Rn_callV (ci := 13) (avs := []) (st := []) (bc1 := 0) (bs1 := 0) (bc2 := bc) (bs2 := bs) fx_X13_putBack dX13_ends_68 wd_1866 wd_1868 wd_106 rfl h2 rfl (Nat.le_of_ble_eq_true rfl) (Nat.le_of_ble_eq_true rfl) (by omega) (by omega) (ls1 := [some (vR (some ar0)), none]) rfl k
theorem BX13_ends_71 {d bc bs : Nat} {h : aH} {n : Nat} {Q : aQ} {r0 : Option Nat} {x1 x2 x3 : Int} (k : Q (some (vI x3)) h n) : Rn d (bc) (bs) mX13_ends 71 [some (vR r0), some (vI x1), some (vI x2), some (vI x3)] [] h n Q := by
  refine Rn_iload_n dX13_ends_71 rfl rfl ?_
  exact Rn_ireturn rfl dX13_ends_72 k
theorem dX13_drifted_0 : decode cX13_drifted 0 = .ok (.iload_n 1, 1) := by decide +kernel
theorem dX13_drifted_1 : decode cX13_drifted 1 = .ok (.istore 4, 2) := by decide +kernel
theorem dX13_drifted_3 : decode cX13_drifted 3 = .ok (.iconst 0, 1) := by decide +kernel
theorem dX13_drifted_4 : decode cX13_drifted 4 = .ok (.istore 5, 2) := by decide +kernel
theorem dX13_drifted_6 : decode cX13_drifted 6 = .ok (.iload 5, 2) := by decide +kernel
theorem dX13_drifted_8 : decode cX13_drifted 8 = .ok (.iload_n 3, 1) := by decide +kernel
theorem dX13_drifted_9 : decode cX13_drifted 9 = .ok (.if_icmp .ge 29, 3) := by decide +kernel
theorem dX13_drifted_12 : decode cX13_drifted 12 = .ok (.aload_n 0, 1) := by decide +kernel
theorem dX13_drifted_13 : decode cX13_drifted 13 = .ok (.aload_n 0, 1) := by decide +kernel
theorem dX13_drifted_14 : decode cX13_drifted 14 = .ok (.getfield 7, 3) := by decide +kernel
theorem dX13_drifted_17 : decode cX13_drifted 17 = .ok (.bipush 7, 2) := by decide +kernel
theorem dX13_drifted_19 : decode cX13_drifted 19 = .ok (.iaload, 1) := by decide +kernel
theorem dX13_drifted_20 : decode cX13_drifted 20 = .ok (.iload_n 2, 1) := by decide +kernel
theorem dX13_drifted_21 : decode cX13_drifted 21 = .ok (.iadd, 1) := by decide +kernel
theorem dX13_drifted_22 : decode cX13_drifted 22 = .ok (.iload 5, 2) := by decide +kernel
theorem dX13_drifted_24 : decode cX13_drifted 24 = .ok (.iadd, 1) := by decide +kernel
theorem dX13_drifted_25 : decode cX13_drifted 25 = .ok (.iload 4, 2) := by decide +kernel
theorem dX13_drifted_27 : decode cX13_drifted 27 = .ok (.invokevirtual 325, 3) := by decide +kernel
theorem dX13_drifted_30 : decode cX13_drifted 30 = .ok (.istore 4, 2) := by decide +kernel
theorem dX13_drifted_32 : decode cX13_drifted 32 = .ok (.iinc 5 1, 3) := by decide +kernel
theorem dX13_drifted_35 : decode cX13_drifted 35 = .ok (.goto (-29), 3) := by decide +kernel
theorem dX13_drifted_38 : decode cX13_drifted 38 = .ok (.iload 4, 2) := by decide +kernel
theorem dX13_drifted_40 : decode cX13_drifted 40 = .ok (.ireturn, 1) := by decide +kernel
theorem BX13_drifted_0 {d bc bs : Nat} {h : aH} {n : Nat} {Q : aQ} {r0 : Option Nat} {x1 x2 x3 : Int} {l4 l5 : Option aV} (k : Rn d bc bs mX13_drifted 6 [some (vR r0), some (vI x1), some (vI x2), some (vI x3), some (vI x1), some (vI 0)] [] h n Q) : Rn d (bc) (bs) mX13_drifted 0 [some (vR r0), some (vI x1), some (vI x2), some (vI x3), l4, l5] [] h n Q := by
  refine Rn_iload_n dX13_drifted_0 rfl rfl ?_
  refine Rn_istore dX13_drifted_1 (Nat.le_of_ble_eq_true rfl) rfl rfl ?_
  refine Rn_iconst dX13_drifted_3 rfl ?_
  refine Rn_istore dX13_drifted_4 (Nat.le_of_ble_eq_true rfl) rfl rfl ?_
  exact k
theorem BX13_drifted_6 {d bc bs : Nat} {h : aH} {n : Nat} {Q : aQ} {r0 : Option Nat} {x1 x2 x3 x4 x5 : Int} (kt : x3 ≤ x5 → Rn d bc bs mX13_drifted 38 [some (vR r0), some (vI x1), some (vI x2), some (vI x3), some (vI x4), some (vI x5)] [] h n Q) (kf : x5 < x3 → Rn d bc bs mX13_drifted 12 [some (vR r0), some (vI x1), some (vI x2), some (vI x3), some (vI x4), some (vI x5)] [] h n Q) : Rn d (bc) (bs) mX13_drifted 6 [some (vR r0), some (vI x1), some (vI x2), some (vI x3), some (vI x4), some (vI x5)] [] h n Q := by
  refine Rn_iload dX13_drifted_6 rfl ?_
  refine Rn_iload_n dX13_drifted_8 rfl rfl ?_
  refine Rn_icmpge (tgt := 38) dX13_drifted_9 rfl ?_ ?_
  · exact kt
  · exact kf
theorem BX13_drifted_12 {d bc bs : Nat} {h : aH} {n : Nat} {Q : aQ} {ar0 at3 : Nat} {x1 x2 x3 x4 x5 v7 : Int} {f1 : List aV} {w5 : List Int} (h2 : h ar0 = cO 13 f1) (g4 : f1[0]? = some (vR (some at3))) (h6 : h at3 = cI w5) (g8 : w5[(7 : Int).toNat]? = some v7) (b9 : -2147483648 ≤ v7 + x2 ∧ v7 + x2 < 2147483648) (b10 : -2147483648 ≤ (v7 + x2) + x5 ∧ (v7 + x2) + x5 < 2147483648) (k : Rn d 0 0 mX13_flowsTo 0 [some (vR (some ar0)), some (vI ((v7 + x2) + x5)), some (vI x4)] [] h n (fun v h1 n1 => Rn (d + 1) bc bs mX13_drifted 30 [some (vR (some ar0)), some (vI x1), some (vI x2), some (vI x3), some (vI x4), some (vI x5)] (v.toList ++ []) h1 n1 Q)) : Rn (d + 1) (bc) (bs) mX13_drifted 12 [some (vR (some ar0)), some (vI x1), some (vI x2), some (vI x3), some (vI x4), some (vI x5)] [] h n Q := by
  refine Rn_aload_n dX13_drifted_12 rfl rfl rfl ?_
  refine Rn_aload_n dX13_drifted_13 rfl rfl rfl ?_
  refine Rn_getfield (ci := 13) (k := 0) dX13_drifted_14 rfl in_13 (Nat.le_of_ble_eq_true rfl) wd_1352 rfl h2 g4 ?_
  refine Rn_bipush dX13_drifted_17 rfl ?_
  refine Rn_iaload dX13_drifted_19 h6 (by decide) g8 ?_
  refine Rn_iload_n dX13_drifted_20 rfl rfl ?_
  refine Rn_iadd dX13_drifted_21 ?_
  rw [w32_id b9.1 b9.2]
  refine Rn_iload dX13_drifted_22 rfl ?_
  refine Rn_iadd dX13_drifted_24 ?_
  rw [w32_id b10.1 b10.2]
  refine Rn_iload dX13_drifted_25 rfl ?_
  exact Rn_callV (ci := 13) (avs := [vI ((v7 + x2) + x5), vI x4]) (st := []) (bc1 := 0) (bs1 := 0) (bc2 := bc) (bs2 := bs) fx_X13_flowsTo dX13_drifted_27 wd_1722 wd_1724 wd_90 rfl h2 rfl (Nat.le_of_ble_eq_true rfl) (Nat.le_of_ble_eq_true rfl) (by omega) (by omega) (ls1 := [some (vR (some ar0)), some (vI ((v7 + x2) + x5)), some (vI x4)]) rfl k
theorem BX13_drifted_30 {d bc bs : Nat} {h : aH} {n : Nat} {Q : aQ} {r0 : Option Nat} {x1 x2 x3 x4 x5 s0 : Int} (b1 : -2147483648 ≤ x5 + 1 ∧ x5 + 1 < 2147483648) (k : Rn d bc bs mX13_drifted 6 [some (vR r0), some (vI x1), some (vI x2), some (vI x3), some (vI s0), some (vI (x5 + 1))] [] h n Q) : Rn d (bc) (bs) mX13_drifted 30 [some (vR r0), some (vI x1), some (vI x2), some (vI x3), some (vI x4), some (vI x5)] [vI s0] h n Q := by
  refine Rn_istore dX13_drifted_30 (Nat.le_of_ble_eq_true rfl) rfl rfl ?_
  refine Rn_iinc dX13_drifted_32 rfl (Nat.le_of_ble_eq_true rfl) rfl rfl rfl ?_
  rw [w32_id b1.1 b1.2]
  refine Rn_goto (tgt := 6) dX13_drifted_35 rfl ?_
  exact k
theorem BX13_drifted_38 {d bc bs : Nat} {h : aH} {n : Nat} {Q : aQ} {r0 : Option Nat} {x1 x2 x3 x4 x5 : Int} (k : Q (some (vI x4)) h n) : Rn d (bc) (bs) mX13_drifted 38 [some (vR r0), some (vI x1), some (vI x2), some (vI x3), some (vI x4), some (vI x5)] [] h n Q := by
  refine Rn_iload dX13_drifted_38 rfl ?_
  exact Rn_ireturn rfl dX13_drifted_40 k
theorem dX13_drift_0 : decode cX13_drift 0 = .ok (.iload_n 1, 1) := by decide +kernel
theorem dX13_drift_1 : decode cX13_drift 1 = .ok (.invokestatic 84, 3) := by decide +kernel
theorem dX13_drift_4 : decode cX13_drift 4 = .ok (.ifCond .eq 23, 3) := by decide +kernel
theorem dX13_drift_7 : decode cX13_drift 7 = .ok (.iload_n 2, 1) := by decide +kernel
theorem dX13_drift_8 : decode cX13_drift 8 = .ok (.iconst 0, 1) := by decide +kernel
theorem dX13_drift_9 : decode cX13_drift 9 = .ok (.bipush 60, 2) := by decide +kernel
theorem dX13_drift_11 : decode cX13_drift 11 = .ok (.invokestatic 72, 3) := by decide +kernel
theorem dX13_drift_14 : decode cX13_drift 14 = .ok (.ifCond .eq 13, 3) := by decide +kernel
theorem dX13_drift_17 : decode cX13_drift 17 = .ok (.aload_n 0, 1) := by decide +kernel
theorem dX13_drift_18 : decode cX13_drift 18 = .ok (.iload_n 1, 1) := by decide +kernel
theorem dX13_drift_19 : decode cX13_drift 19 = .ok (.iconst 0, 1) := by decide +kernel
theorem dX13_drift_20 : decode cX13_drift 20 = .ok (.iload_n 2, 1) := by decide +kernel
theorem dX13_drift_21 : decode cX13_drift 21 = .ok (.invokevirtual 409, 3) := by decide +kernel
theorem dX13_drift_24 : decode cX13_drift 24 = .ok (.goto 4, 3) := by decide +kernel
theorem dX13_drift_27 : decode cX13_drift 27 = .ok (.iconst (-1), 1) := by decide +kernel
theorem dX13_drift_28 : decode cX13_drift 28 = .ok (.ireturn, 1) := by decide +kernel
theorem BX13_drift_0 {d bc bs : Nat} {h : aH} {n : Nat} {Q : aQ} {r0 : Option Nat} {x1 x2 : Int} (k : Rn d 0 0 mX13_isPlace 0 [some (vI x1)] [] h n (fun v h1 n1 => Rn (d + 1) bc bs mX13_drift 4 [some (vR r0), some (vI x1), some (vI x2)] (v.toList ++ []) h1 n1 Q)) : Rn (d + 1) (bc) (bs) mX13_drift 0 [some (vR r0), some (vI x1), some (vI x2)] [] h n Q := by
  refine Rn_iload_n dX13_drift_0 rfl rfl ?_
  exact Rn_callS (avs := [vI x1]) (st := []) (bc1 := 0) (bs1 := 0) (bc2 := bc) (bs2 := bs) fx_X13_isPlace dX13_drift_1 (Or.inl wd_1460) wd_1461 rfl (Nat.le_of_ble_eq_true rfl) (Nat.le_of_ble_eq_true rfl) (by omega) (by omega) (ls1 := [some (vI x1)]) rfl k
theorem BX13_drift_4 {d bc bs : Nat} {h : aH} {n : Nat} {Q : aQ} {r0 : Option Nat} {x1 x2 s0 : Int} (kt : s0 = 0 → Rn d bc bs mX13_drift 27 [some (vR r0), some (vI x1), some (vI x2)] [] h n Q) (kf : s0 ≠ 0 → Rn d bc bs mX13_drift 7 [some (vR r0), some (vI x1), some (vI x2)] [] h n Q) : Rn d (bc) (bs) mX13_drift 4 [some (vR r0), some (vI x1), some (vI x2)] [vI s0] h n Q := by
  refine Rn_ifeq (tgt := 27) dX13_drift_4 rfl ?_ ?_
  · exact kt
  · exact kf
theorem BX13_drift_7 {d bc bs : Nat} {h : aH} {n : Nat} {Q : aQ} {r0 : Option Nat} {x1 x2 : Int} (k : Rn d 0 0 mX13_isIn 0 [some (vI x2), some (vI 0), some (vI 60)] [] h n (fun v h1 n1 => Rn (d + 1) bc bs mX13_drift 14 [some (vR r0), some (vI x1), some (vI x2)] (v.toList ++ []) h1 n1 Q)) : Rn (d + 1) (bc) (bs) mX13_drift 7 [some (vR r0), some (vI x1), some (vI x2)] [] h n Q := by
  refine Rn_iload_n dX13_drift_7 rfl rfl ?_
  refine Rn_iconst dX13_drift_8 rfl ?_
  refine Rn_bipush dX13_drift_9 rfl ?_
  exact Rn_callS (avs := [vI x2, vI 0, vI 60]) (st := []) (bc1 := 0) (bs1 := 0) (bc2 := bc) (bs2 := bs) fx_X13_isIn dX13_drift_11 (Or.inl wd_1463) wd_1464 rfl (Nat.le_of_ble_eq_true rfl) (Nat.le_of_ble_eq_true rfl) (by omega) (by omega) (ls1 := [some (vI x2), some (vI 0), some (vI 60)]) rfl k
theorem BX13_drift_14 {d bc bs : Nat} {h : aH} {n : Nat} {Q : aQ} {r0 : Option Nat} {x1 x2 s0 : Int} (kt : s0 = 0 → Rn d bc bs mX13_drift 27 [some (vR r0), some (vI x1), some (vI x2)] [] h n Q) (kf : s0 ≠ 0 → Rn d bc bs mX13_drift 17 [some (vR r0), some (vI x1), some (vI x2)] [] h n Q) : Rn d (bc) (bs) mX13_drift 14 [some (vR r0), some (vI x1), some (vI x2)] [vI s0] h n Q := by
  refine Rn_ifeq (tgt := 27) dX13_drift_14 rfl ?_ ?_
  · exact kt
  · exact kf
theorem BX13_drift_17 {d bc bs : Nat} {h : aH} {n : Nat} {Q : aQ} {ar0 : Nat} {x1 x2 : Int} {f1 : List aV} (h2 : h ar0 = cO 13 f1) (k : Rn d 0 0 mX13_drifted 0 [some (vR (some ar0)), some (vI x1), some (vI 0), some (vI x2), none, none] [] h n (fun v h1 n1 => Rn (d + 1) bc bs mX13_drift 24 [some (vR (some ar0)), some (vI x1), some (vI x2)] (v.toList ++ []) h1 n1 Q)) : Rn (d + 1) (bc) (bs) mX13_drift 17 [some (vR (some ar0)), some (vI x1), some (vI x2)] [] h n Q := by
  refine Rn_aload_n dX13_drift_17 rfl rfl rfl ?_
  refine Rn_iload_n dX13_drift_18 rfl rfl ?_
  refine Rn_iconst dX13_drift_19 rfl ?_
  refine Rn_iload_n dX13_drift_20 rfl rfl ?_
  exact Rn_callV (ci := 13) (avs := [vI x1, vI 0, vI x2]) (st := []) (bc1 := 0) (bs1 := 0) (bc2 := bc) (bs2 := bs) fx_X13_drifted dX13_drift_21 wd_1878 wd_1880 wd_107 rfl h2 rfl (Nat.le_of_ble_eq_true rfl) (Nat.le_of_ble_eq_true rfl) (by omega) (by omega) (ls1 := [some (vR (some ar0)), some (vI x1), some (vI 0), some (vI x2), none, none]) rfl k
theorem BX13_drift_24 {d bc bs : Nat} {h : aH} {n : Nat} {Q : aQ} {r0 : Option Nat} {x1 x2 s0 : Int} (k : Q (some (vI s0)) h n) : Rn d (bc) (bs) mX13_drift 24 [some (vR r0), some (vI x1), some (vI x2)] [vI s0] h n Q := by
  refine Rn_goto (tgt := 28) dX13_drift_24 rfl ?_
  exact Rn_ireturn rfl dX13_drift_28 k
theorem BX13_drift_27 {d bc bs : Nat} {h : aH} {n : Nat} {Q : aQ} {r0 : Option Nat} {x1 x2 : Int} (k : Q (some (vI (-1))) h n) : Rn d (bc) (bs) mX13_drift 27 [some (vR r0), some (vI x1), some (vI x2)] [] h n Q := by
  refine Rn_iconst dX13_drift_27 rfl ?_
  exact Rn_ireturn rfl dX13_drift_28 k
theorem dX13_soonest_0 : decode cX13_soonest 0 = .ok (.aload_n 0, 1) := by decide +kernel
theorem dX13_soonest_1 : decode cX13_soonest 1 = .ok (.iload_n 1, 1) := by decide +kernel
theorem dX13_soonest_2 : decode cX13_soonest 2 = .ok (.invokevirtual 343, 3) := by decide +kernel
theorem dX13_soonest_5 : decode cX13_soonest 5 = .ok (.ifCond .eq 20, 3) := by decide +kernel
theorem dX13_soonest_8 : decode cX13_soonest 8 = .ok (.aload_n 0, 1) := by decide +kernel
theorem dX13_soonest_9 : decode cX13_soonest 9 = .ok (.iload_n 2, 1) := by decide +kernel
theorem dX13_soonest_10 : decode cX13_soonest 10 = .ok (.invokevirtual 343, 3) := by decide +kernel
theorem dX13_soonest_13 : decode cX13_soonest 13 = .ok (.ifCond .eq 12, 3) := by decide +kernel
theorem dX13_soonest_16 : decode cX13_soonest 16 = .ok (.iload_n 3, 1) := by decide +kernel
theorem dX13_soonest_17 : decode cX13_soonest 17 = .ok (.iconst 0, 1) := by decide +kernel
theorem dX13_soonest_18 : decode cX13_soonest 18 = .ok (.iconst 1, 1) := by decide +kernel
theorem dX13_soonest_19 : decode cX13_soonest 19 = .ok (.invokestatic 72, 3) := by decide +kernel
theorem dX13_soonest_22 : decode cX13_soonest 22 = .ok (.ifCond .ne 5, 3) := by decide +kernel
theorem dX13_soonest_25 : decode cX13_soonest 25 = .ok (.iconst (-1), 1) := by decide +kernel
theorem dX13_soonest_26 : decode cX13_soonest 26 = .ok (.ireturn, 1) := by decide +kernel
theorem dX13_soonest_27 : decode cX13_soonest 27 = .ok (.iconst 1, 1) := by decide +kernel
theorem dX13_soonest_28 : decode cX13_soonest 28 = .ok (.istore 4, 2) := by decide +kernel
theorem dX13_soonest_30 : decode cX13_soonest 30 = .ok (.iload 4, 2) := by decide +kernel
theorem dX13_soonest_32 : decode cX13_soonest 32 = .ok (.bipush 60, 2) := by decide +kernel
theorem dX13_soonest_34 : decode cX13_soonest 34 = .ok (.if_icmp .gt 70, 3) := by decide +kernel
theorem dX13_soonest_37 : decode cX13_soonest 37 = .ok (.iconst 0, 1) := by decide +kernel
theorem dX13_soonest_38 : decode cX13_soonest 38 = .ok (.istore 5, 2) := by decide +kernel
theorem dX13_soonest_40 : decode cX13_soonest 40 = .ok (.iload 5, 2) := by decide +kernel
theorem dX13_soonest_42 : decode cX13_soonest 42 = .ok (.bipush 10, 2) := by decide +kernel
theorem dX13_soonest_44 : decode cX13_soonest 44 = .ok (.if_icmp .ge 54, 3) := by decide +kernel
theorem dX13_soonest_47 : decode cX13_soonest 47 = .ok (.iload 5, 2) := by decide +kernel
theorem dX13_soonest_49 : decode cX13_soonest 49 = .ok (.iload 4, 2) := by decide +kernel
theorem dX13_soonest_51 : decode cX13_soonest 51 = .ok (.if_icmp .ge 47, 3) := by decide +kernel
theorem dX13_soonest_54 : decode cX13_soonest 54 = .ok (.aload_n 0, 1) := by decide +kernel
theorem dX13_soonest_55 : decode cX13_soonest 55 = .ok (.aload_n 0, 1) := by decide +kernel
theorem dX13_soonest_56 : decode cX13_soonest 56 = .ok (.iload_n 1, 1) := by decide +kernel
theorem dX13_soonest_57 : decode cX13_soonest 57 = .ok (.iconst 0, 1) := by decide +kernel
theorem dX13_soonest_58 : decode cX13_soonest 58 = .ok (.invokevirtual 267, 3) := by decide +kernel
theorem dX13_soonest_61 : decode cX13_soonest 61 = .ok (.iload 5, 2) := by decide +kernel
theorem dX13_soonest_63 : decode cX13_soonest 63 = .ok (.iload 4, 2) := by decide +kernel
theorem dX13_soonest_65 : decode cX13_soonest 65 = .ok (.iload 5, 2) := by decide +kernel
theorem dX13_soonest_67 : decode cX13_soonest 67 = .ok (.isub, 1) := by decide +kernel
theorem dX13_soonest_68 : decode cX13_soonest 68 = .ok (.invokevirtual 409, 3) := by decide +kernel
theorem dX13_soonest_71 : decode cX13_soonest 71 = .ok (.aload_n 0, 1) := by decide +kernel
theorem dX13_soonest_72 : decode cX13_soonest 72 = .ok (.iload_n 2, 1) := by decide +kernel
theorem dX13_soonest_73 : decode cX13_soonest 73 = .ok (.iconst 0, 1) := by decide +kernel
theorem dX13_soonest_74 : decode cX13_soonest 74 = .ok (.invokevirtual 267, 3) := by decide +kernel
theorem dX13_soonest_77 : decode cX13_soonest 77 = .ok (.if_icmp .ne 15, 3) := by decide +kernel
theorem dX13_soonest_80 : decode cX13_soonest 80 = .ok (.iload_n 3, 1) := by decide +kernel
theorem dX13_soonest_81 : decode cX13_soonest 81 = .ok (.ifCond .ne 8, 3) := by decide +kernel
theorem dX13_soonest_84 : decode cX13_soonest 84 = .ok (.iload 4, 2) := by decide +kernel
theorem dX13_soonest_86 : decode cX13_soonest 86 = .ok (.goto 5, 3) := by decide +kernel
theorem dX13_soonest_89 : decode cX13_soonest 89 = .ok (.iload 5, 2) := by decide +kernel
theorem dX13_soonest_91 : decode cX13_soonest 91 = .ok (.ireturn, 1) := by decide +kernel
theorem dX13_soonest_92 : decode cX13_soonest 92 = .ok (.iinc 5 1, 3) := by decide +kernel
theorem dX13_soonest_95 : decode cX13_soonest 95 = .ok (.goto (-55), 3) := by decide +kernel
theorem dX13_soonest_98 : decode cX13_soonest 98 = .ok (.iinc 4 1, 3) := by decide +kernel
theorem dX13_soonest_101 : decode cX13_soonest 101 = .ok (.goto (-71), 3) := by decide +kernel
theorem dX13_soonest_104 : decode cX13_soonest 104 = .ok (.iconst (-1), 1) := by decide +kernel
theorem dX13_soonest_105 : decode cX13_soonest 105 = .ok (.ireturn, 1) := by decide +kernel
theorem BX13_soonest_0 {d bc bs : Nat} {h : aH} {n : Nat} {Q : aQ} {ar0 : Nat} {x1 x2 x3 : Int} {l4 l5 : Option aV} {f1 : List aV} (h2 : h ar0 = cO 13 f1) (k : Rn d 0 0 mX13_isPerson 0 [some (vR (some ar0)), some (vI x1)] [] h n (fun v h1 n1 => Rn (d + 1) bc bs mX13_soonest 5 [some (vR (some ar0)), some (vI x1), some (vI x2), some (vI x3), l4, l5] (v.toList ++ []) h1 n1 Q)) : Rn (d + 1) (bc) (bs) mX13_soonest 0 [some (vR (some ar0)), some (vI x1), some (vI x2), some (vI x3), l4, l5] [] h n Q := by
  refine Rn_aload_n dX13_soonest_0 rfl rfl rfl ?_
  refine Rn_iload_n dX13_soonest_1 rfl rfl ?_
  exact Rn_callV (ci := 13) (avs := [vI x1]) (st := []) (bc1 := 0) (bs1 := 0) (bc2 := bc) (bs2 := bs) fx_X13_isPerson dX13_soonest_2 wd_1646 wd_1648 wd_74 rfl h2 rfl (Nat.le_of_ble_eq_true rfl) (Nat.le_of_ble_eq_true rfl) (by omega) (by omega) (ls1 := [some (vR (some ar0)), some (vI x1)]) rfl k
theorem BX13_soonest_5 {d bc bs : Nat} {h : aH} {n : Nat} {Q : aQ} {r0 : Option Nat} {x1 x2 x3 s0 : Int} {l4 l5 : Option aV} (kt : s0 = 0 → Rn d bc bs mX13_soonest 25 [some (vR r0), some (vI x1), some (vI x2), some (vI x3), l4, l5] [] h n Q) (kf : s0 ≠ 0 → Rn d bc bs mX13_soonest 8 [some (vR r0), some (vI x1), some (vI x2), some (vI x3), l4, l5] [] h n Q) : Rn d (bc) (bs) mX13_soonest 5 [some (vR r0), some (vI x1), some (vI x2), some (vI x3), l4, l5] [vI s0] h n Q := by
  refine Rn_ifeq (tgt := 25) dX13_soonest_5 rfl ?_ ?_
  · exact kt
  · exact kf
theorem BX13_soonest_8 {d bc bs : Nat} {h : aH} {n : Nat} {Q : aQ} {ar0 : Nat} {x1 x2 x3 : Int} {l4 l5 : Option aV} {f1 : List aV} (h2 : h ar0 = cO 13 f1) (k : Rn d 0 0 mX13_isPerson 0 [some (vR (some ar0)), some (vI x2)] [] h n (fun v h1 n1 => Rn (d + 1) bc bs mX13_soonest 13 [some (vR (some ar0)), some (vI x1), some (vI x2), some (vI x3), l4, l5] (v.toList ++ []) h1 n1 Q)) : Rn (d + 1) (bc) (bs) mX13_soonest 8 [some (vR (some ar0)), some (vI x1), some (vI x2), some (vI x3), l4, l5] [] h n Q := by
  refine Rn_aload_n dX13_soonest_8 rfl rfl rfl ?_
  refine Rn_iload_n dX13_soonest_9 rfl rfl ?_
  exact Rn_callV (ci := 13) (avs := [vI x2]) (st := []) (bc1 := 0) (bs1 := 0) (bc2 := bc) (bs2 := bs) fx_X13_isPerson dX13_soonest_10 wd_1646 wd_1648 wd_74 rfl h2 rfl (Nat.le_of_ble_eq_true rfl) (Nat.le_of_ble_eq_true rfl) (by omega) (by omega) (ls1 := [some (vR (some ar0)), some (vI x2)]) rfl k
theorem BX13_soonest_13 {d bc bs : Nat} {h : aH} {n : Nat} {Q : aQ} {r0 : Option Nat} {x1 x2 x3 s0 : Int} {l4 l5 : Option aV} (kt : s0 = 0 → Rn d bc bs mX13_soonest 25 [some (vR r0), some (vI x1), some (vI x2), some (vI x3), l4, l5] [] h n Q) (kf : s0 ≠ 0 → Rn d bc bs mX13_soonest 16 [some (vR r0), some (vI x1), some (vI x2), some (vI x3), l4, l5] [] h n Q) : Rn d (bc) (bs) mX13_soonest 13 [some (vR r0), some (vI x1), some (vI x2), some (vI x3), l4, l5] [vI s0] h n Q := by
  refine Rn_ifeq (tgt := 25) dX13_soonest_13 rfl ?_ ?_
  · exact kt
  · exact kf
theorem BX13_soonest_16 {d bc bs : Nat} {h : aH} {n : Nat} {Q : aQ} {r0 : Option Nat} {x1 x2 x3 : Int} {l4 l5 : Option aV} (k : Rn d 0 0 mX13_isIn 0 [some (vI x3), some (vI 0), some (vI 1)] [] h n (fun v h1 n1 => Rn (d + 1) bc bs mX13_soonest 22 [some (vR r0), some (vI x1), some (vI x2), some (vI x3), l4, l5] (v.toList ++ []) h1 n1 Q)) : Rn (d + 1) (bc) (bs) mX13_soonest 16 [some (vR r0), some (vI x1), some (vI x2), some (vI x3), l4, l5] [] h n Q := by
  refine Rn_iload_n dX13_soonest_16 rfl rfl ?_
  refine Rn_iconst dX13_soonest_17 rfl ?_
  refine Rn_iconst dX13_soonest_18 rfl ?_
  exact Rn_callS (avs := [vI x3, vI 0, vI 1]) (st := []) (bc1 := 0) (bs1 := 0) (bc2 := bc) (bs2 := bs) fx_X13_isIn dX13_soonest_19 (Or.inl wd_1463) wd_1464 rfl (Nat.le_of_ble_eq_true rfl) (Nat.le_of_ble_eq_true rfl) (by omega) (by omega) (ls1 := [some (vI x3), some (vI 0), some (vI 1)]) rfl k
theorem BX13_soonest_22 {d bc bs : Nat} {h : aH} {n : Nat} {Q : aQ} {r0 : Option Nat} {x1 x2 x3 s0 : Int} {l4 l5 : Option aV} (kt : s0 ≠ 0 → Rn d bc bs mX13_soonest 27 [some (vR r0), some (vI x1), some (vI x2), some (vI x3), l4, l5] [] h n Q) (kf : s0 = 0 → Rn d bc bs mX13_soonest 25 [some (vR r0), some (vI x1), some (vI x2), some (vI x3), l4, l5] [] h n Q) : Rn d (bc) (bs) mX13_soonest 22 [some (vR r0), some (vI x1), some (vI x2), some (vI x3), l4, l5] [vI s0] h n Q := by
  refine Rn_ifne (tgt := 27) dX13_soonest_22 rfl ?_ ?_
  · exact kt
  · exact kf
theorem BX13_soonest_25 {d bc bs : Nat} {h : aH} {n : Nat} {Q : aQ} {r0 : Option Nat} {x1 x2 x3 : Int} {l4 l5 : Option aV} (k : Q (some (vI (-1))) h n) : Rn d (bc) (bs) mX13_soonest 25 [some (vR r0), some (vI x1), some (vI x2), some (vI x3), l4, l5] [] h n Q := by
  refine Rn_iconst dX13_soonest_25 rfl ?_
  exact Rn_ireturn rfl dX13_soonest_26 k
theorem BX13_soonest_27 {d bc bs : Nat} {h : aH} {n : Nat} {Q : aQ} {r0 : Option Nat} {x1 x2 x3 : Int} {l4 l5 : Option aV} (k : Rn d bc bs mX13_soonest 30 [some (vR r0), some (vI x1), some (vI x2), some (vI x3), some (vI 1), l5] [] h n Q) : Rn d (bc) (bs) mX13_soonest 27 [some (vR r0), some (vI x1), some (vI x2), some (vI x3), l4, l5] [] h n Q := by
  refine Rn_iconst dX13_soonest_27 rfl ?_
  refine Rn_istore dX13_soonest_28 (Nat.le_of_ble_eq_true rfl) rfl rfl ?_
  exact k
theorem BX13_soonest_30 {d bc bs : Nat} {h : aH} {n : Nat} {Q : aQ} {r0 : Option Nat} {x1 x2 x3 x4 : Int} {l5 : Option aV} (kt : 60 < x4 → Rn d bc bs mX13_soonest 104 [some (vR r0), some (vI x1), some (vI x2), some (vI x3), some (vI x4), l5] [] h n Q) (kf : x4 ≤ 60 → Rn d bc bs mX13_soonest 37 [some (vR r0), some (vI x1), some (vI x2), some (vI x3), some (vI x4), l5] [] h n Q) : Rn d (bc) (bs) mX13_soonest 30 [some (vR r0), some (vI x1), some (vI x2), some (vI x3), some (vI x4), l5] [] h n Q := by
  refine Rn_iload dX13_soonest_30 rfl ?_
  refine Rn_bipush dX13_soonest_32 rfl ?_
  refine Rn_icmpgt (tgt := 104) dX13_soonest_34 rfl ?_ ?_
  · exact kt
  · exact kf
theorem BX13_soonest_37 {d bc bs : Nat} {h : aH} {n : Nat} {Q : aQ} {r0 : Option Nat} {x1 x2 x3 x4 : Int} {l5 : Option aV} (k : Rn d bc bs mX13_soonest 40 [some (vR r0), some (vI x1), some (vI x2), some (vI x3), some (vI x4), some (vI 0)] [] h n Q) : Rn d (bc) (bs) mX13_soonest 37 [some (vR r0), some (vI x1), some (vI x2), some (vI x3), some (vI x4), l5] [] h n Q := by
  refine Rn_iconst dX13_soonest_37 rfl ?_
  refine Rn_istore dX13_soonest_38 (Nat.le_of_ble_eq_true rfl) rfl rfl ?_
  exact k
theorem BX13_soonest_40 {d bc bs : Nat} {h : aH} {n : Nat} {Q : aQ} {r0 : Option Nat} {x1 x2 x3 x4 x5 : Int} (kt : 10 ≤ x5 → Rn d bc bs mX13_soonest 98 [some (vR r0), some (vI x1), some (vI x2), some (vI x3), some (vI x4), some (vI x5)] [] h n Q) (kf : x5 < 10 → Rn d bc bs mX13_soonest 47 [some (vR r0), some (vI x1), some (vI x2), some (vI x3), some (vI x4), some (vI x5)] [] h n Q) : Rn d (bc) (bs) mX13_soonest 40 [some (vR r0), some (vI x1), some (vI x2), some (vI x3), some (vI x4), some (vI x5)] [] h n Q := by
  refine Rn_iload dX13_soonest_40 rfl ?_
  refine Rn_bipush dX13_soonest_42 rfl ?_
  refine Rn_icmpge (tgt := 98) dX13_soonest_44 rfl ?_ ?_
  · exact kt
  · exact kf
theorem BX13_soonest_47 {d bc bs : Nat} {h : aH} {n : Nat} {Q : aQ} {r0 : Option Nat} {x1 x2 x3 x4 x5 : Int} (kt : x4 ≤ x5 → Rn d bc bs mX13_soonest 98 [some (vR r0), some (vI x1), some (vI x2), some (vI x3), some (vI x4), some (vI x5)] [] h n Q) (kf : x5 < x4 → Rn d bc bs mX13_soonest 54 [some (vR r0), some (vI x1), some (vI x2), some (vI x3), some (vI x4), some (vI x5)] [] h n Q) : Rn d (bc) (bs) mX13_soonest 47 [some (vR r0), some (vI x1), some (vI x2), some (vI x3), some (vI x4), some (vI x5)] [] h n Q := by
  refine Rn_iload dX13_soonest_47 rfl ?_
  refine Rn_iload dX13_soonest_49 rfl ?_
  refine Rn_icmpge (tgt := 98) dX13_soonest_51 rfl ?_ ?_
  · exact kt
  · exact kf
theorem BX13_soonest_54 {d bc bs : Nat} {h : aH} {n : Nat} {Q : aQ} {ar0 : Nat} {x1 x2 x3 x4 x5 : Int} {f1 : List aV} (h2 : h ar0 = cO 13 f1) (k : Rn d 0 0 mX13_own 0 [some (vR (some ar0)), some (vI x1), some (vI 0)] [] h n (fun v h1 n1 => Rn (d + 1) bc bs mX13_soonest 61 [some (vR (some ar0)), some (vI x1), some (vI x2), some (vI x3), some (vI x4), some (vI x5)] (v.toList ++ [vR (some ar0)]) h1 n1 Q)) : Rn (d + 1) (bc) (bs) mX13_soonest 54 [some (vR (some ar0)), some (vI x1), some (vI x2), some (vI x3), some (vI x4), some (vI x5)] [] h n Q := by
  refine Rn_aload_n dX13_soonest_54 rfl rfl rfl ?_
  refine Rn_aload_n dX13_soonest_55 rfl rfl rfl ?_
  refine Rn_iload_n dX13_soonest_56 rfl rfl ?_
  refine Rn_iconst dX13_soonest_57 rfl ?_
  exact Rn_callV (ci := 13) (avs := [vI x1, vI 0]) (st := [vR (some ar0)]) (bc1 := 0) (bs1 := 0) (bc2 := bc) (bs2 := bs) fx_X13_own dX13_soonest_58 wd_1662 wd_1664 wd_78 rfl h2 rfl (Nat.le_of_ble_eq_true rfl) (Nat.le_of_ble_eq_true rfl) (by omega) (by omega) (ls1 := [some (vR (some ar0)), some (vI x1), some (vI 0)]) rfl k
theorem BX13_soonest_61 {d bc bs : Nat} {h : aH} {n : Nat} {Q : aQ} {r0 : Option Nat} {x1 x2 x3 x4 x5 s1 : Int} {aq0 : Nat} {f2 : List aV} (b1 : -2147483648 ≤ x4 - x5 ∧ x4 - x5 < 2147483648) (h3 : h aq0 = cO 13 f2) (k : Rn d 0 0 mX13_drifted 0 [some (vR (some aq0)), some (vI s1), some (vI x5), some (vI (x4 - x5)), none, none] [] h n (fun v h1 n1 => Rn (d + 1) bc bs mX13_soonest 71 [some (vR r0), some (vI x1), some (vI x2), some (vI x3), some (vI x4), some (vI x5)] (v.toList ++ []) h1 n1 Q)) : Rn (d + 1) (bc) (bs) mX13_soonest 61 [some (vR r0), some (vI x1), some (vI x2), some (vI x3), some (vI x4), some (vI x5)] [vI s1, vR (some aq0)] h n Q := by
  refine Rn_iload dX13_soonest_61 rfl ?_
  refine Rn_iload dX13_soonest_63 rfl ?_
  refine Rn_iload dX13_soonest_65 rfl ?_
  refine Rn_isub dX13_soonest_67 ?_
  rw [w32_id b1.1 b1.2]
  exact Rn_callV (ci := 13) (avs := [vI s1, vI x5, vI (x4 - x5)]) (st := []) (bc1 := 0) (bs1 := 0) (bc2 := bc) (bs2 := bs) fx_X13_drifted dX13_soonest_68 wd_1878 wd_1880 wd_107 rfl h3 rfl (Nat.le_of_ble_eq_true rfl) (Nat.le_of_ble_eq_true rfl) (by omega) (by omega) (ls1 := [some (vR (some aq0)), some (vI s1), some (vI x5), some (vI (x4 - x5)), none, none]) rfl k
theorem BX13_soonest_71 {d bc bs : Nat} {h : aH} {n : Nat} {Q : aQ} {ar0 : Nat} {x1 x2 x3 x4 x5 s0 : Int} {f1 : List aV} (h2 : h ar0 = cO 13 f1) (k : Rn d 0 0 mX13_own 0 [some (vR (some ar0)), some (vI x2), some (vI 0)] [] h n (fun v h1 n1 => Rn (d + 1) bc bs mX13_soonest 77 [some (vR (some ar0)), some (vI x1), some (vI x2), some (vI x3), some (vI x4), some (vI x5)] (v.toList ++ [vI s0]) h1 n1 Q)) : Rn (d + 1) (bc) (bs) mX13_soonest 71 [some (vR (some ar0)), some (vI x1), some (vI x2), some (vI x3), some (vI x4), some (vI x5)] [vI s0] h n Q := by
  refine Rn_aload_n dX13_soonest_71 rfl rfl rfl ?_
  refine Rn_iload_n dX13_soonest_72 rfl rfl ?_
  refine Rn_iconst dX13_soonest_73 rfl ?_
  exact Rn_callV (ci := 13) (avs := [vI x2, vI 0]) (st := [vI s0]) (bc1 := 0) (bs1 := 0) (bc2 := bc) (bs2 := bs) fx_X13_own dX13_soonest_74 wd_1662 wd_1664 wd_78 rfl h2 rfl (Nat.le_of_ble_eq_true rfl) (Nat.le_of_ble_eq_true rfl) (by omega) (by omega) (ls1 := [some (vR (some ar0)), some (vI x2), some (vI 0)]) rfl k
theorem BX13_soonest_77 {d bc bs : Nat} {h : aH} {n : Nat} {Q : aQ} {r0 : Option Nat} {x1 x2 x3 x4 x5 s0 s1 : Int} (kt : s0 ≠ s1 → Rn d bc bs mX13_soonest 92 [some (vR r0), some (vI x1), some (vI x2), some (vI x3), some (vI x4), some (vI x5)] [] h n Q) (kf : s0 = s1 → Rn d bc bs mX13_soonest 80 [some (vR r0), some (vI x1), some (vI x2), some (vI x3), some (vI x4), some (vI x5)] [] h n Q) : Rn d (bc) (bs) mX13_soonest 77 [some (vR r0), some (vI x1), some (vI x2), some (vI x3), some (vI x4), some (vI x5)] [vI s1, vI s0] h n Q := by
  refine Rn_icmpne (tgt := 92) dX13_soonest_77 rfl ?_ ?_
  · exact kt
  · exact kf
theorem BX13_soonest_80 {d bc bs : Nat} {h : aH} {n : Nat} {Q : aQ} {r0 : Option Nat} {x1 x2 x3 x4 x5 : Int} (kt : x3 ≠ 0 → Rn d bc bs mX13_soonest 89 [some (vR r0), some (vI x1), some (vI x2), some (vI x3), some (vI x4), some (vI x5)] [] h n Q) (kf : x3 = 0 → Rn d bc bs mX13_soonest 84 [some (vR r0), some (vI x1), some (vI x2), some (vI x3), some (vI x4), some (vI x5)] [] h n Q) : Rn d (bc) (bs) mX13_soonest 80 [some (vR r0), some (vI x1), some (vI x2), some (vI x3), some (vI x4), some (vI x5)] [] h n Q := by
  refine Rn_iload_n dX13_soonest_80 rfl rfl ?_
  refine Rn_ifne (tgt := 89) dX13_soonest_81 rfl ?_ ?_
  · exact kt
  · exact kf
theorem BX13_soonest_84 {d bc bs : Nat} {h : aH} {n : Nat} {Q : aQ} {r0 : Option Nat} {x1 x2 x3 x4 x5 : Int} (k : Q (some (vI x4)) h n) : Rn d (bc) (bs) mX13_soonest 84 [some (vR r0), some (vI x1), some (vI x2), some (vI x3), some (vI x4), some (vI x5)] [] h n Q := by
  refine Rn_iload dX13_soonest_84 rfl ?_
  refine Rn_goto (tgt := 91) dX13_soonest_86 rfl ?_
  exact Rn_ireturn rfl dX13_soonest_91 k
theorem BX13_soonest_89 {d bc bs : Nat} {h : aH} {n : Nat} {Q : aQ} {r0 : Option Nat} {x1 x2 x3 x4 x5 : Int} (k : Q (some (vI x5)) h n) : Rn d (bc) (bs) mX13_soonest 89 [some (vR r0), some (vI x1), some (vI x2), some (vI x3), some (vI x4), some (vI x5)] [] h n Q := by
  refine Rn_iload dX13_soonest_89 rfl ?_
  exact Rn_ireturn rfl dX13_soonest_91 k
theorem BX13_soonest_92 {d bc bs : Nat} {h : aH} {n : Nat} {Q : aQ} {r0 : Option Nat} {x1 x2 x3 x4 x5 : Int} (b1 : -2147483648 ≤ x5 + 1 ∧ x5 + 1 < 2147483648) (k : Rn d bc bs mX13_soonest 40 [some (vR r0), some (vI x1), some (vI x2), some (vI x3), some (vI x4), some (vI (x5 + 1))] [] h n Q) : Rn d (bc) (bs) mX13_soonest 92 [some (vR r0), some (vI x1), some (vI x2), some (vI x3), some (vI x4), some (vI x5)] [] h n Q := by
  refine Rn_iinc dX13_soonest_92 rfl (Nat.le_of_ble_eq_true rfl) rfl rfl rfl ?_
  rw [w32_id b1.1 b1.2]
  refine Rn_goto (tgt := 40) dX13_soonest_95 rfl ?_
  exact k
theorem BX13_soonest_98 {d bc bs : Nat} {h : aH} {n : Nat} {Q : aQ} {r0 : Option Nat} {x1 x2 x3 x4 x5 : Int} (b1 : -2147483648 ≤ x4 + 1 ∧ x4 + 1 < 2147483648) (k : Rn d bc bs mX13_soonest 30 [some (vR r0), some (vI x1), some (vI x2), some (vI x3), some (vI (x4 + 1)), some (vI x5)] [] h n Q) : Rn d (bc) (bs) mX13_soonest 98 [some (vR r0), some (vI x1), some (vI x2), some (vI x3), some (vI x4), some (vI x5)] [] h n Q := by
  refine Rn_iinc dX13_soonest_98 rfl (Nat.le_of_ble_eq_true rfl) rfl rfl rfl ?_
  rw [w32_id b1.1 b1.2]
  refine Rn_goto (tgt := 30) dX13_soonest_101 rfl ?_
  exact k
theorem BX13_soonest_104 {d bc bs : Nat} {h : aH} {n : Nat} {Q : aQ} {r0 : Option Nat} {x1 x2 x3 x4 : Int} {l5 : Option aV} (k : Q (some (vI (-1))) h n) : Rn d (bc) (bs) mX13_soonest 104 [some (vR r0), some (vI x1), some (vI x2), some (vI x3), some (vI x4), l5] [] h n Q := by
  refine Rn_iconst dX13_soonest_104 rfl ?_
  exact Rn_ireturn rfl dX13_soonest_105 k
theorem dX13_hopOf_0 : decode cX13_hopOf 0 = .ok (.ldc_w 412, 3) := by decide +kernel
theorem dX13_hopOf_3 : decode cX13_hopOf 3 = .ok (.istore 4, 2) := by decide +kernel
theorem dX13_hopOf_5 : decode cX13_hopOf 5 = .ok (.iconst 0, 1) := by decide +kernel
theorem dX13_hopOf_6 : decode cX13_hopOf 6 = .ok (.istore 5, 2) := by decide +kernel
theorem dX13_hopOf_8 : decode cX13_hopOf 8 = .ok (.iload 5, 2) := by decide +kernel
theorem dX13_hopOf_10 : decode cX13_hopOf 10 = .ok (.bipush 10, 2) := by decide +kernel
theorem dX13_hopOf_12 : decode cX13_hopOf 12 = .ok (.if_icmp .ge 71, 3) := by decide +kernel
theorem dX13_hopOf_15 : decode cX13_hopOf 15 = .ok (.iconst 1, 1) := by decide +kernel
theorem dX13_hopOf_16 : decode cX13_hopOf 16 = .ok (.istore 6, 2) := by decide +kernel
theorem dX13_hopOf_18 : decode cX13_hopOf 18 = .ok (.iload 6, 2) := by decide +kernel
theorem dX13_hopOf_20 : decode cX13_hopOf 20 = .ok (.bipush 20, 2) := by decide +kernel
theorem dX13_hopOf_22 : decode cX13_hopOf 22 = .ok (.if_icmp .gt 55, 3) := by decide +kernel
theorem dX13_hopOf_25 : decode cX13_hopOf 25 = .ok (.iload_n 3, 1) := by decide +kernel
theorem dX13_hopOf_26 : decode cX13_hopOf 26 = .ok (.iload 5, 2) := by decide +kernel
theorem dX13_hopOf_28 : decode cX13_hopOf 28 = .ok (.iadd, 1) := by decide +kernel
theorem dX13_hopOf_29 : decode cX13_hopOf 29 = .ok (.iload 6, 2) := by decide +kernel
theorem dX13_hopOf_31 : decode cX13_hopOf 31 = .ok (.iadd, 1) := by decide +kernel
theorem dX13_hopOf_32 : decode cX13_hopOf 32 = .ok (.iload 4, 2) := by decide +kernel
theorem dX13_hopOf_34 : decode cX13_hopOf 34 = .ok (.if_icmp .ge 37, 3) := by decide +kernel
theorem dX13_hopOf_37 : decode cX13_hopOf 37 = .ok (.aload_n 0, 1) := by decide +kernel
theorem dX13_hopOf_38 : decode cX13_hopOf 38 = .ok (.aload_n 0, 1) := by decide +kernel
theorem dX13_hopOf_39 : decode cX13_hopOf 39 = .ok (.iload_n 1, 1) := by decide +kernel
theorem dX13_hopOf_40 : decode cX13_hopOf 40 = .ok (.iconst 0, 1) := by decide +kernel
theorem dX13_hopOf_41 : decode cX13_hopOf 41 = .ok (.invokevirtual 267, 3) := by decide +kernel
theorem dX13_hopOf_44 : decode cX13_hopOf 44 = .ok (.iload_n 3, 1) := by decide +kernel
theorem dX13_hopOf_45 : decode cX13_hopOf 45 = .ok (.iload 5, 2) := by decide +kernel
theorem dX13_hopOf_47 : decode cX13_hopOf 47 = .ok (.iadd, 1) := by decide +kernel
theorem dX13_hopOf_48 : decode cX13_hopOf 48 = .ok (.iload 6, 2) := by decide +kernel
theorem dX13_hopOf_50 : decode cX13_hopOf 50 = .ok (.invokevirtual 409, 3) := by decide +kernel
theorem dX13_hopOf_53 : decode cX13_hopOf 53 = .ok (.aload_n 0, 1) := by decide +kernel
theorem dX13_hopOf_54 : decode cX13_hopOf 54 = .ok (.iload_n 2, 1) := by decide +kernel
theorem dX13_hopOf_55 : decode cX13_hopOf 55 = .ok (.iconst 0, 1) := by decide +kernel
theorem dX13_hopOf_56 : decode cX13_hopOf 56 = .ok (.invokevirtual 267, 3) := by decide +kernel
theorem dX13_hopOf_59 : decode cX13_hopOf 59 = .ok (.if_icmp .ne 12, 3) := by decide +kernel
theorem dX13_hopOf_62 : decode cX13_hopOf 62 = .ok (.iload_n 3, 1) := by decide +kernel
theorem dX13_hopOf_63 : decode cX13_hopOf 63 = .ok (.iload 5, 2) := by decide +kernel
theorem dX13_hopOf_65 : decode cX13_hopOf 65 = .ok (.iadd, 1) := by decide +kernel
theorem dX13_hopOf_66 : decode cX13_hopOf 66 = .ok (.iload 6, 2) := by decide +kernel
theorem dX13_hopOf_68 : decode cX13_hopOf 68 = .ok (.iadd, 1) := by decide +kernel
theorem dX13_hopOf_69 : decode cX13_hopOf 69 = .ok (.istore 4, 2) := by decide +kernel
theorem dX13_hopOf_71 : decode cX13_hopOf 71 = .ok (.iinc 6 1, 3) := by decide +kernel
theorem dX13_hopOf_74 : decode cX13_hopOf 74 = .ok (.goto (-56), 3) := by decide +kernel
theorem dX13_hopOf_77 : decode cX13_hopOf 77 = .ok (.iinc 5 1, 3) := by decide +kernel
theorem dX13_hopOf_80 : decode cX13_hopOf 80 = .ok (.goto (-72), 3) := by decide +kernel
theorem dX13_hopOf_83 : decode cX13_hopOf 83 = .ok (.iload 4, 2) := by decide +kernel
theorem dX13_hopOf_85 : decode cX13_hopOf 85 = .ok (.ireturn, 1) := by decide +kernel
theorem BX13_hopOf_0 {d bc bs : Nat} {h : aH} {n : Nat} {Q : aQ} {r0 : Option Nat} {x1 x2 x3 : Int} {l4 l5 l6 : Option aV} (k : Rn d bc bs mX13_hopOf 8 [some (vR r0), some (vI x1), some (vI x2), some (vI x3), some (vI 1000000), some (vI 0), l6] [] h n Q) : Rn d (bc) (bs) mX13_hopOf 0 [some (vR r0), some (vI x1), some (vI x2), some (vI x3), l4, l5, l6] [] h n Q := by
  refine Rn_ldcw dX13_hopOf_0 wd_1894 rfl ?_
  refine Rn_istore dX13_hopOf_3 (Nat.le_of_ble_eq_true rfl) rfl rfl ?_
  refine Rn_iconst dX13_hopOf_5 rfl ?_
  refine Rn_istore dX13_hopOf_6 (Nat.le_of_ble_eq_true rfl) rfl rfl ?_
  exact k
theorem BX13_hopOf_8 {d bc bs : Nat} {h : aH} {n : Nat} {Q : aQ} {r0 : Option Nat} {x1 x2 x3 x4 x5 : Int} {l6 : Option aV} (kt : 10 ≤ x5 → Rn d bc bs mX13_hopOf 83 [some (vR r0), some (vI x1), some (vI x2), some (vI x3), some (vI x4), some (vI x5), l6] [] h n Q) (kf : x5 < 10 → Rn d bc bs mX13_hopOf 15 [some (vR r0), some (vI x1), some (vI x2), some (vI x3), some (vI x4), some (vI x5), l6] [] h n Q) : Rn d (bc) (bs) mX13_hopOf 8 [some (vR r0), some (vI x1), some (vI x2), some (vI x3), some (vI x4), some (vI x5), l6] [] h n Q := by
  refine Rn_iload dX13_hopOf_8 rfl ?_
  refine Rn_bipush dX13_hopOf_10 rfl ?_
  refine Rn_icmpge (tgt := 83) dX13_hopOf_12 rfl ?_ ?_
  · exact kt
  · exact kf
theorem BX13_hopOf_15 {d bc bs : Nat} {h : aH} {n : Nat} {Q : aQ} {r0 : Option Nat} {x1 x2 x3 x4 x5 : Int} {l6 : Option aV} (k : Rn d bc bs mX13_hopOf 18 [some (vR r0), some (vI x1), some (vI x2), some (vI x3), some (vI x4), some (vI x5), some (vI 1)] [] h n Q) : Rn d (bc) (bs) mX13_hopOf 15 [some (vR r0), some (vI x1), some (vI x2), some (vI x3), some (vI x4), some (vI x5), l6] [] h n Q := by
  refine Rn_iconst dX13_hopOf_15 rfl ?_
  refine Rn_istore dX13_hopOf_16 (Nat.le_of_ble_eq_true rfl) rfl rfl ?_
  exact k
theorem BX13_hopOf_18 {d bc bs : Nat} {h : aH} {n : Nat} {Q : aQ} {r0 : Option Nat} {x1 x2 x3 x4 x5 x6 : Int} (kt : 20 < x6 → Rn d bc bs mX13_hopOf 77 [some (vR r0), some (vI x1), some (vI x2), some (vI x3), some (vI x4), some (vI x5), some (vI x6)] [] h n Q) (kf : x6 ≤ 20 → Rn d bc bs mX13_hopOf 25 [some (vR r0), some (vI x1), some (vI x2), some (vI x3), some (vI x4), some (vI x5), some (vI x6)] [] h n Q) : Rn d (bc) (bs) mX13_hopOf 18 [some (vR r0), some (vI x1), some (vI x2), some (vI x3), some (vI x4), some (vI x5), some (vI x6)] [] h n Q := by
  refine Rn_iload dX13_hopOf_18 rfl ?_
  refine Rn_bipush dX13_hopOf_20 rfl ?_
  refine Rn_icmpgt (tgt := 77) dX13_hopOf_22 rfl ?_ ?_
  · exact kt
  · exact kf
theorem BX13_hopOf_25 {d bc bs : Nat} {h : aH} {n : Nat} {Q : aQ} {r0 : Option Nat} {x1 x2 x3 x4 x5 x6 : Int} (b1 : -2147483648 ≤ x3 + x5 ∧ x3 + x5 < 2147483648) (b2 : -2147483648 ≤ (x3 + x5) + x6 ∧ (x3 + x5) + x6 < 2147483648) (kt : x4 ≤ ((x3 + x5) + x6) → Rn d bc bs mX13_hopOf 71 [some (vR r0), some (vI x1), some (vI x2), some (vI x3), some (vI x4), some (vI x5), some (vI x6)] [] h n Q) (kf : ((x3 + x5) + x6) < x4 → Rn d bc bs mX13_hopOf 37 [some (vR r0), some (vI x1), some (vI x2), some (vI x3), some (vI x4), some (vI x5), some (vI x6)] [] h n Q) : Rn d (bc) (bs) mX13_hopOf 25 [some (vR r0), some (vI x1), some (vI x2), some (vI x3), some (vI x4), some (vI x5), some (vI x6)] [] h n Q := by
  refine Rn_iload_n dX13_hopOf_25 rfl rfl ?_
  refine Rn_iload dX13_hopOf_26 rfl ?_
  refine Rn_iadd dX13_hopOf_28 ?_
  rw [w32_id b1.1 b1.2]
  refine Rn_iload dX13_hopOf_29 rfl ?_
  refine Rn_iadd dX13_hopOf_31 ?_
  rw [w32_id b2.1 b2.2]
  refine Rn_iload dX13_hopOf_32 rfl ?_
  refine Rn_icmpge (tgt := 71) dX13_hopOf_34 rfl ?_ ?_
  · exact kt
  · exact kf
theorem BX13_hopOf_37 {d bc bs : Nat} {h : aH} {n : Nat} {Q : aQ} {ar0 : Nat} {x1 x2 x3 x4 x5 x6 : Int} {f1 : List aV} (h2 : h ar0 = cO 13 f1) (k : Rn d 0 0 mX13_own 0 [some (vR (some ar0)), some (vI x1), some (vI 0)] [] h n (fun v h1 n1 => Rn (d + 1) bc bs mX13_hopOf 44 [some (vR (some ar0)), some (vI x1), some (vI x2), some (vI x3), some (vI x4), some (vI x5), some (vI x6)] (v.toList ++ [vR (some ar0)]) h1 n1 Q)) : Rn (d + 1) (bc) (bs) mX13_hopOf 37 [some (vR (some ar0)), some (vI x1), some (vI x2), some (vI x3), some (vI x4), some (vI x5), some (vI x6)] [] h n Q := by
  refine Rn_aload_n dX13_hopOf_37 rfl rfl rfl ?_
  refine Rn_aload_n dX13_hopOf_38 rfl rfl rfl ?_
  refine Rn_iload_n dX13_hopOf_39 rfl rfl ?_
  refine Rn_iconst dX13_hopOf_40 rfl ?_
  exact Rn_callV (ci := 13) (avs := [vI x1, vI 0]) (st := [vR (some ar0)]) (bc1 := 0) (bs1 := 0) (bc2 := bc) (bs2 := bs) fx_X13_own dX13_hopOf_41 wd_1662 wd_1664 wd_78 rfl h2 rfl (Nat.le_of_ble_eq_true rfl) (Nat.le_of_ble_eq_true rfl) (by omega) (by omega) (ls1 := [some (vR (some ar0)), some (vI x1), some (vI 0)]) rfl k
theorem BX13_hopOf_44 {d bc bs : Nat} {h : aH} {n : Nat} {Q : aQ} {r0 : Option Nat} {x1 x2 x3 x4 x5 x6 s1 : Int} {aq0 : Nat} {f2 : List aV} (b1 : -2147483648 ≤ x3 + x5 ∧ x3 + x5 < 2147483648) (h3 : h aq0 = cO 13 f2) (k : Rn d 0 0 mX13_drifted 0 [some (vR (some aq0)), some (vI s1), some (vI (x3 + x5)), some (vI x6), none, none] [] h n (fun v h1 n1 => Rn (d + 1) bc bs mX13_hopOf 53 [some (vR r0), some (vI x1), some (vI x2), some (vI x3), some (vI x4), some (vI x5), some (vI x6)] (v.toList ++ []) h1 n1 Q)) : Rn (d + 1) (bc) (bs) mX13_hopOf 44 [some (vR r0), some (vI x1), some (vI x2), some (vI x3), some (vI x4), some (vI x5), some (vI x6)] [vI s1, vR (some aq0)] h n Q := by
  refine Rn_iload_n dX13_hopOf_44 rfl rfl ?_
  refine Rn_iload dX13_hopOf_45 rfl ?_
  refine Rn_iadd dX13_hopOf_47 ?_
  rw [w32_id b1.1 b1.2]
  refine Rn_iload dX13_hopOf_48 rfl ?_
  exact Rn_callV (ci := 13) (avs := [vI s1, vI (x3 + x5), vI x6]) (st := []) (bc1 := 0) (bs1 := 0) (bc2 := bc) (bs2 := bs) fx_X13_drifted dX13_hopOf_50 wd_1878 wd_1880 wd_107 rfl h3 rfl (Nat.le_of_ble_eq_true rfl) (Nat.le_of_ble_eq_true rfl) (by omega) (by omega) (ls1 := [some (vR (some aq0)), some (vI s1), some (vI (x3 + x5)), some (vI x6), none, none]) rfl k
theorem BX13_hopOf_53 {d bc bs : Nat} {h : aH} {n : Nat} {Q : aQ} {ar0 : Nat} {x1 x2 x3 x4 x5 x6 s0 : Int} {f1 : List aV} (h2 : h ar0 = cO 13 f1) (k : Rn d 0 0 mX13_own 0 [some (vR (some ar0)), some (vI x2), some (vI 0)] [] h n (fun v h1 n1 => Rn (d + 1) bc bs mX13_hopOf 59 [some (vR (some ar0)), some (vI x1), some (vI x2), some (vI x3), some (vI x4), some (vI x5), some (vI x6)] (v.toList ++ [vI s0]) h1 n1 Q)) : Rn (d + 1) (bc) (bs) mX13_hopOf 53 [some (vR (some ar0)), some (vI x1), some (vI x2), some (vI x3), some (vI x4), some (vI x5), some (vI x6)] [vI s0] h n Q := by
  refine Rn_aload_n dX13_hopOf_53 rfl rfl rfl ?_
  refine Rn_iload_n dX13_hopOf_54 rfl rfl ?_
  refine Rn_iconst dX13_hopOf_55 rfl ?_
  exact Rn_callV (ci := 13) (avs := [vI x2, vI 0]) (st := [vI s0]) (bc1 := 0) (bs1 := 0) (bc2 := bc) (bs2 := bs) fx_X13_own dX13_hopOf_56 wd_1662 wd_1664 wd_78 rfl h2 rfl (Nat.le_of_ble_eq_true rfl) (Nat.le_of_ble_eq_true rfl) (by omega) (by omega) (ls1 := [some (vR (some ar0)), some (vI x2), some (vI 0)]) rfl k
theorem BX13_hopOf_59 {d bc bs : Nat} {h : aH} {n : Nat} {Q : aQ} {r0 : Option Nat} {x1 x2 x3 x4 x5 x6 s0 s1 : Int} (kt : s0 ≠ s1 → Rn d bc bs mX13_hopOf 71 [some (vR r0), some (vI x1), some (vI x2), some (vI x3), some (vI x4), some (vI x5), some (vI x6)] [] h n Q) (kf : s0 = s1 → Rn d bc bs mX13_hopOf 62 [some (vR r0), some (vI x1), some (vI x2), some (vI x3), some (vI x4), some (vI x5), some (vI x6)] [] h n Q) : Rn d (bc) (bs) mX13_hopOf 59 [some (vR r0), some (vI x1), some (vI x2), some (vI x3), some (vI x4), some (vI x5), some (vI x6)] [vI s1, vI s0] h n Q := by
  refine Rn_icmpne (tgt := 71) dX13_hopOf_59 rfl ?_ ?_
  · exact kt
  · exact kf
theorem BX13_hopOf_62 {d bc bs : Nat} {h : aH} {n : Nat} {Q : aQ} {r0 : Option Nat} {x1 x2 x3 x4 x5 x6 : Int} (b1 : -2147483648 ≤ x3 + x5 ∧ x3 + x5 < 2147483648) (b2 : -2147483648 ≤ (x3 + x5) + x6 ∧ (x3 + x5) + x6 < 2147483648) (b3 : -2147483648 ≤ x6 + 1 ∧ x6 + 1 < 2147483648) (k : Rn d bc bs mX13_hopOf 18 [some (vR r0), some (vI x1), some (vI x2), some (vI x3), some (vI ((x3 + x5) + x6)), some (vI x5), some (vI (x6 + 1))] [] h n Q) : Rn d (bc) (bs) mX13_hopOf 62 [some (vR r0), some (vI x1), some (vI x2), some (vI x3), some (vI x4), some (vI x5), some (vI x6)] [] h n Q := by
  refine Rn_iload_n dX13_hopOf_62 rfl rfl ?_
  refine Rn_iload dX13_hopOf_63 rfl ?_
  refine Rn_iadd dX13_hopOf_65 ?_
  rw [w32_id b1.1 b1.2]
  refine Rn_iload dX13_hopOf_66 rfl ?_
  refine Rn_iadd dX13_hopOf_68 ?_
  rw [w32_id b2.1 b2.2]
  refine Rn_istore dX13_hopOf_69 (Nat.le_of_ble_eq_true rfl) rfl rfl ?_
  refine Rn_iinc dX13_hopOf_71 rfl (Nat.le_of_ble_eq_true rfl) rfl rfl rfl ?_
  rw [w32_id b3.1 b3.2]
  refine Rn_goto (tgt := 18) dX13_hopOf_74 rfl ?_
  exact k
theorem BX13_hopOf_71 {d bc bs : Nat} {h : aH} {n : Nat} {Q : aQ} {r0 : Option Nat} {x1 x2 x3 x4 x5 x6 : Int} (b1 : -2147483648 ≤ x6 + 1 ∧ x6 + 1 < 2147483648) (k : Rn d bc bs mX13_hopOf 18 [some (vR r0), some (vI x1), some (vI x2), some (vI x3), some (vI x4), some (vI x5), some (vI (x6 + 1))] [] h n Q) : Rn d (bc) (bs) mX13_hopOf 71 [some (vR r0), some (vI x1), some (vI x2), some (vI x3), some (vI x4), some (vI x5), some (vI x6)] [] h n Q := by
  refine Rn_iinc dX13_hopOf_71 rfl (Nat.le_of_ble_eq_true rfl) rfl rfl rfl ?_
  rw [w32_id b1.1 b1.2]
  refine Rn_goto (tgt := 18) dX13_hopOf_74 rfl ?_
  exact k
theorem BX13_hopOf_77 {d bc bs : Nat} {h : aH} {n : Nat} {Q : aQ} {r0 : Option Nat} {x1 x2 x3 x4 x5 x6 : Int} (b1 : -2147483648 ≤ x5 + 1 ∧ x5 + 1 < 2147483648) (k : Rn d bc bs mX13_hopOf 8 [some (vR r0), some (vI x1), some (vI x2), some (vI x3), some (vI x4), some (vI (x5 + 1)), some (vI x6)] [] h n Q) : Rn d (bc) (bs) mX13_hopOf 77 [some (vR r0), some (vI x1), some (vI x2), some (vI x3), some (vI x4), some (vI x5), some (vI x6)] [] h n Q := by
  refine Rn_iinc dX13_hopOf_77 rfl (Nat.le_of_ble_eq_true rfl) rfl rfl rfl ?_
  rw [w32_id b1.1 b1.2]
  refine Rn_goto (tgt := 8) dX13_hopOf_80 rfl ?_
  exact k
theorem BX13_hopOf_83 {d bc bs : Nat} {h : aH} {n : Nat} {Q : aQ} {r0 : Option Nat} {x1 x2 x3 x4 x5 : Int} {l6 : Option aV} (k : Q (some (vI x4)) h n) : Rn d (bc) (bs) mX13_hopOf 83 [some (vR r0), some (vI x1), some (vI x2), some (vI x3), some (vI x4), some (vI x5), l6] [] h n Q := by
  refine Rn_iload dX13_hopOf_83 rfl ?_
  exact Rn_ireturn rfl dX13_hopOf_85 k
theorem dX13_whenBy_0 : decode cX13_whenBy 0 = .ok (.iconst 0, 1) := by decide +kernel
theorem dX13_whenBy_1 : decode cX13_whenBy 1 = .ok (.istore 4, 2) := by decide +kernel
theorem dX13_whenBy_3 : decode cX13_whenBy 3 = .ok (.iload_n 1, 1) := by decide +kernel
theorem dX13_whenBy_4 : decode cX13_whenBy 4 = .ok (.istore 5, 2) := by decide +kernel
theorem dX13_whenBy_6 : decode cX13_whenBy 6 = .ok (.iconst 0, 1) := by decide +kernel
theorem dX13_whenBy_7 : decode cX13_whenBy 7 = .ok (.istore 6, 2) := by decide +kernel
theorem dX13_whenBy_9 : decode cX13_whenBy 9 = .ok (.iload 6, 2) := by decide +kernel
theorem dX13_whenBy_11 : decode cX13_whenBy 11 = .ok (.iload_n 3, 1) := by decide +kernel
theorem dX13_whenBy_12 : decode cX13_whenBy 12 = .ok (.if_icmp .gt 52, 3) := by decide +kernel
theorem dX13_whenBy_15 : decode cX13_whenBy 15 = .ok (.iload 4, 2) := by decide +kernel
theorem dX13_whenBy_17 : decode cX13_whenBy 17 = .ok (.ldc_w 412, 3) := by decide +kernel
theorem dX13_whenBy_20 : decode cX13_whenBy 20 = .ok (.if_icmp .ge 44, 3) := by decide +kernel
theorem dX13_whenBy_23 : decode cX13_whenBy 23 = .ok (.iload 6, 2) := by decide +kernel
theorem dX13_whenBy_25 : decode cX13_whenBy 25 = .ok (.iload_n 3, 1) := by decide +kernel
theorem dX13_whenBy_26 : decode cX13_whenBy 26 = .ok (.if_icmp .ne 7, 3) := by decide +kernel
theorem dX13_whenBy_29 : decode cX13_whenBy 29 = .ok (.iload_n 2, 1) := by decide +kernel
theorem dX13_whenBy_30 : decode cX13_whenBy 30 = .ok (.goto 10, 3) := by decide +kernel
theorem dX13_whenBy_33 : decode cX13_whenBy 33 = .ok (.aload_n 0, 1) := by decide +kernel
theorem dX13_whenBy_34 : decode cX13_whenBy 34 = .ok (.getfield 50, 3) := by decide +kernel
theorem dX13_whenBy_37 : decode cX13_whenBy 37 = .ok (.iload 6, 2) := by decide +kernel
theorem dX13_whenBy_39 : decode cX13_whenBy 39 = .ok (.iaload, 1) := by decide +kernel
theorem dX13_whenBy_40 : decode cX13_whenBy 40 = .ok (.istore 7, 2) := by decide +kernel
theorem dX13_whenBy_42 : decode cX13_whenBy 42 = .ok (.aload_n 0, 1) := by decide +kernel
theorem dX13_whenBy_43 : decode cX13_whenBy 43 = .ok (.iload 5, 2) := by decide +kernel
theorem dX13_whenBy_45 : decode cX13_whenBy 45 = .ok (.iload 7, 2) := by decide +kernel
theorem dX13_whenBy_47 : decode cX13_whenBy 47 = .ok (.iload 4, 2) := by decide +kernel
theorem dX13_whenBy_49 : decode cX13_whenBy 49 = .ok (.invokevirtual 413, 3) := by decide +kernel
theorem dX13_whenBy_52 : decode cX13_whenBy 52 = .ok (.istore 4, 2) := by decide +kernel
theorem dX13_whenBy_54 : decode cX13_whenBy 54 = .ok (.iload 7, 2) := by decide +kernel
theorem dX13_whenBy_56 : decode cX13_whenBy 56 = .ok (.istore 5, 2) := by decide +kernel
theorem dX13_whenBy_58 : decode cX13_whenBy 58 = .ok (.iinc 6 1, 3) := by decide +kernel
theorem dX13_whenBy_61 : decode cX13_whenBy 61 = .ok (.goto (-52), 3) := by decide +kernel
theorem dX13_whenBy_64 : decode cX13_whenBy 64 = .ok (.iload 4, 2) := by decide +kernel
theorem dX13_whenBy_66 : decode cX13_whenBy 66 = .ok (.ireturn, 1) := by decide +kernel
theorem BX13_whenBy_0 {d bc bs : Nat} {h : aH} {n : Nat} {Q : aQ} {r0 : Option Nat} {x1 x2 x3 : Int} {l4 l5 l6 l7 : Option aV} (k : Rn d bc bs mX13_whenBy 9 [some (vR r0), some (vI x1), some (vI x2), some (vI x3), some (vI 0), some (vI x1), some (vI 0), l7] [] h n Q) : Rn d (bc) (bs) mX13_whenBy 0 [some (vR r0), some (vI x1), some (vI x2), some (vI x3), l4, l5, l6, l7] [] h n Q := by
  refine Rn_iconst dX13_whenBy_0 rfl ?_
  refine Rn_istore dX13_whenBy_1 (Nat.le_of_ble_eq_true rfl) rfl rfl ?_
  refine Rn_iload_n dX13_whenBy_3 rfl rfl ?_
  refine Rn_istore dX13_whenBy_4 (Nat.le_of_ble_eq_true rfl) rfl rfl ?_
  refine Rn_iconst dX13_whenBy_6 rfl ?_
  refine Rn_istore dX13_whenBy_7 (Nat.le_of_ble_eq_true rfl) rfl rfl ?_
  exact k
theorem BX13_whenBy_9 {d bc bs : Nat} {h : aH} {n : Nat} {Q : aQ} {r0 : Option Nat} {x1 x2 x3 x4 x5 x6 : Int} {l7 : Option aV} (kt : x3 < x6 → Rn d bc bs mX13_whenBy 64 [some (vR r0), some (vI x1), some (vI x2), some (vI x3), some (vI x4), some (vI x5), some (vI x6), l7] [] h n Q) (kf : x6 ≤ x3 → Rn d bc bs mX13_whenBy 15 [some (vR r0), some (vI x1), some (vI x2), some (vI x3), some (vI x4), some (vI x5), some (vI x6), l7] [] h n Q) : Rn d (bc) (bs) mX13_whenBy 9 [some (vR r0), some (vI x1), some (vI x2), some (vI x3), some (vI x4), some (vI x5), some (vI x6), l7] [] h n Q := by
  refine Rn_iload dX13_whenBy_9 rfl ?_
  refine Rn_iload_n dX13_whenBy_11 rfl rfl ?_
  refine Rn_icmpgt (tgt := 64) dX13_whenBy_12 rfl ?_ ?_
  · exact kt
  · exact kf
theorem BX13_whenBy_15 {d bc bs : Nat} {h : aH} {n : Nat} {Q : aQ} {r0 : Option Nat} {x1 x2 x3 x4 x5 x6 : Int} {l7 : Option aV} (kt : 1000000 ≤ x4 → Rn d bc bs mX13_whenBy 64 [some (vR r0), some (vI x1), some (vI x2), some (vI x3), some (vI x4), some (vI x5), some (vI x6), l7] [] h n Q) (kf : x4 < 1000000 → Rn d bc bs mX13_whenBy 23 [some (vR r0), some (vI x1), some (vI x2), some (vI x3), some (vI x4), some (vI x5), some (vI x6), l7] [] h n Q) : Rn d (bc) (bs) mX13_whenBy 15 [some (vR r0), some (vI x1), some (vI x2), some (vI x3), some (vI x4), some (vI x5), some (vI x6), l7] [] h n Q := by
  refine Rn_iload dX13_whenBy_15 rfl ?_
  refine Rn_ldcw dX13_whenBy_17 wd_1894 rfl ?_
  refine Rn_icmpge (tgt := 64) dX13_whenBy_20 rfl ?_ ?_
  · exact kt
  · exact kf
theorem BX13_whenBy_23 {d bc bs : Nat} {h : aH} {n : Nat} {Q : aQ} {r0 : Option Nat} {x1 x2 x3 x4 x5 x6 : Int} {l7 : Option aV} (kt : x6 ≠ x3 → Rn d bc bs mX13_whenBy 33 [some (vR r0), some (vI x1), some (vI x2), some (vI x3), some (vI x4), some (vI x5), some (vI x6), l7] [] h n Q) (kf : x6 = x3 → Rn d bc bs mX13_whenBy 29 [some (vR r0), some (vI x1), some (vI x2), some (vI x3), some (vI x4), some (vI x5), some (vI x6), l7] [] h n Q) : Rn d (bc) (bs) mX13_whenBy 23 [some (vR r0), some (vI x1), some (vI x2), some (vI x3), some (vI x4), some (vI x5), some (vI x6), l7] [] h n Q := by
  refine Rn_iload dX13_whenBy_23 rfl ?_
  refine Rn_iload_n dX13_whenBy_25 rfl rfl ?_
  refine Rn_icmpne (tgt := 33) dX13_whenBy_26 rfl ?_ ?_
  · exact kt
  · exact kf
theorem BX13_whenBy_29 {d bc bs : Nat} {h : aH} {n : Nat} {Q : aQ} {ar0 : Nat} {x1 x2 x3 x4 x5 x6 : Int} {l7 : Option aV} {f1 : List aV} (h2 : h ar0 = cO 13 f1) (k : Rn d 0 0 mX13_hopOf 0 [some (vR (some ar0)), some (vI x5), some (vI x2), some (vI x4), none, none, none] [] h n (fun v h1 n1 => Rn (d + 1) bc bs mX13_whenBy 52 [some (vR (some ar0)), some (vI x1), some (vI x2), some (vI x3), some (vI x4), some (vI x5), some (vI x6), some (vI x2)] (v.toList ++ []) h1 n1 Q)) : Rn (d + 1) (bc) (bs) mX13_whenBy 29 [some (vR (some ar0)), some (vI x1), some (vI x2), some (vI x3), some (vI x4), some (vI x5), some (vI x6), l7] [] h n Q := by
  refine Rn_iload_n dX13_whenBy_29 rfl rfl ?_
  refine Rn_goto (tgt := 40) dX13_whenBy_30 rfl ?_
  refine Rn_istore dX13_whenBy_40 (Nat.le_of_ble_eq_true rfl) rfl rfl ?_
  refine Rn_aload_n dX13_whenBy_42 rfl rfl rfl ?_
  refine Rn_iload dX13_whenBy_43 rfl ?_
  refine Rn_iload dX13_whenBy_45 rfl ?_
  refine Rn_iload dX13_whenBy_47 rfl ?_
  exact Rn_callV (ci := 13) (avs := [vI x5, vI x2, vI x4]) (st := []) (bc1 := 0) (bs1 := 0) (bc2 := bc) (bs2 := bs) fx_X13_hopOf dX13_whenBy_49 wd_1907 wd_1909 wd_112 rfl h2 rfl (Nat.le_of_ble_eq_true rfl) (Nat.le_of_ble_eq_true rfl) (by omega) (by omega) (ls1 := [some (vR (some ar0)), some (vI x5), some (vI x2), some (vI x4), none, none, none]) rfl k
theorem BX13_whenBy_33 {d bc bs : Nat} {h : aH} {n : Nat} {Q : aQ} {ar0 at3 : Nat} {x1 x2 x3 x4 x5 x6 v7 : Int} {l7 : Option aV} {f1 : List aV} {w5 : List Int} (h2 : h ar0 = cO 13 f1) (g4 : f1[26]? = some (vR (some at3))) (h6 : h at3 = cI w5) (i8 : 0 ≤ x6) (g9 : w5[(x6 : Int).toNat]? = some v7) (k : Rn d 0 0 mX13_hopOf 0 [some (vR (some ar0)), some (vI x5), some (vI v7), some (vI x4), none, none, none] [] h n (fun v h1 n1 => Rn (d + 1) bc bs mX13_whenBy 52 [some (vR (some ar0)), some (vI x1), some (vI x2), some (vI x3), some (vI x4), some (vI x5), some (vI x6), some (vI v7)] (v.toList ++ []) h1 n1 Q)) : Rn (d + 1) (bc) (bs) mX13_whenBy 33 [some (vR (some ar0)), some (vI x1), some (vI x2), some (vI x3), some (vI x4), some (vI x5), some (vI x6), l7] [] h n Q := by
  refine Rn_aload_n dX13_whenBy_33 rfl rfl rfl ?_
  refine Rn_getfield (ci := 13) (k := 26) dX13_whenBy_34 rfl in_13 (Nat.le_of_ble_eq_true rfl) wd_1378 rfl h2 g4 ?_
  refine Rn_iload dX13_whenBy_37 rfl ?_
  refine Rn_iaload dX13_whenBy_39 h6 i8 g9 ?_
  refine Rn_istore dX13_whenBy_40 (Nat.le_of_ble_eq_true rfl) rfl rfl ?_
  refine Rn_aload_n dX13_whenBy_42 rfl rfl rfl ?_
  refine Rn_iload dX13_whenBy_43 rfl ?_
  refine Rn_iload dX13_whenBy_45 rfl ?_
  refine Rn_iload dX13_whenBy_47 rfl ?_
  exact Rn_callV (ci := 13) (avs := [vI x5, vI v7, vI x4]) (st := []) (bc1 := 0) (bs1 := 0) (bc2 := bc) (bs2 := bs) fx_X13_hopOf dX13_whenBy_49 wd_1907 wd_1909 wd_112 rfl h2 rfl (Nat.le_of_ble_eq_true rfl) (Nat.le_of_ble_eq_true rfl) (by omega) (by omega) (ls1 := [some (vR (some ar0)), some (vI x5), some (vI v7), some (vI x4), none, none, none]) rfl k
theorem BX13_whenBy_52 {d bc bs : Nat} {h : aH} {n : Nat} {Q : aQ} {r0 : Option Nat} {x1 x2 x3 x4 x5 x6 x7 s0 : Int} (b1 : -2147483648 ≤ x6 + 1 ∧ x6 + 1 < 2147483648) (k : Rn d bc bs mX13_whenBy 9 [some (vR r0), some (vI x1), some (vI x2), some (vI x3), some (vI s0), some (vI x7), some (vI (x6 + 1)), some (vI x7)] [] h n Q) : Rn d (bc) (bs) mX13_whenBy 52 [some (vR r0), some (vI x1), some (vI x2), some (vI x3), some (vI x4), some (vI x5), some (vI x6), some (vI x7)] [vI s0] h n Q := by
  refine Rn_istore dX13_whenBy_52 (Nat.le_of_ble_eq_true rfl) rfl rfl ?_
  refine Rn_iload dX13_whenBy_54 rfl ?_
  refine Rn_istore dX13_whenBy_56 (Nat.le_of_ble_eq_true rfl) rfl rfl ?_
  refine Rn_iinc dX13_whenBy_58 rfl (Nat.le_of_ble_eq_true rfl) rfl rfl rfl ?_
  rw [w32_id b1.1 b1.2]
  refine Rn_goto (tgt := 9) dX13_whenBy_61 rfl ?_
  exact k
theorem BX13_whenBy_64 {d bc bs : Nat} {h : aH} {n : Nat} {Q : aQ} {r0 : Option Nat} {x1 x2 x3 x4 x5 x6 : Int} {l7 : Option aV} (k : Q (some (vI x4)) h n) : Rn d (bc) (bs) mX13_whenBy 64 [some (vR r0), some (vI x1), some (vI x2), some (vI x3), some (vI x4), some (vI x5), some (vI x6), l7] [] h n Q := by
  refine Rn_iload dX13_whenBy_64 rfl ?_
  exact Rn_ireturn rfl dX13_whenBy_66 k
theorem dX13_isNextRow_0 : decode cX13_isNextRow 0 = .ok (.iload 4, 2) := by decide +kernel
theorem dX13_isNextRow_2 : decode cX13_isNextRow 2 = .ok (.istore 5, 2) := by decide +kernel
theorem dX13_isNextRow_4 : decode cX13_isNextRow 4 = .ok (.iload 5, 2) := by decide +kernel
theorem dX13_isNextRow_6 : decode cX13_isNextRow 6 = .ok (.ifCond .lt 103, 3) := by decide +kernel
theorem dX13_isNextRow_9 : decode cX13_isNextRow 9 = .ok (.iload 5, 2) := by decide +kernel
theorem dX13_isNextRow_11 : decode cX13_isNextRow 11 = .ok (.iload_n 1, 1) := by decide +kernel
theorem dX13_isNextRow_12 : decode cX13_isNextRow 12 = .ok (.if_icmp .ge 97, 3) := by decide +kernel
theorem dX13_isNextRow_15 : decode cX13_isNextRow 15 = .ok (.aload_n 0, 1) := by decide +kernel
theorem dX13_isNextRow_16 : decode cX13_isNextRow 16 = .ok (.getfield 50, 3) := by decide +kernel
theorem dX13_isNextRow_19 : decode cX13_isNextRow 19 = .ok (.iload 5, 2) := by decide +kernel
theorem dX13_isNextRow_21 : decode cX13_isNextRow 21 = .ok (.dup2, 1) := by decide +kernel
theorem dX13_isNextRow_22 : decode cX13_isNextRow 22 = .ok (.iaload, 1) := by decide +kernel
theorem dX13_isNextRow_23 : decode cX13_isNextRow 23 = .ok (.iconst 1, 1) := by decide +kernel
theorem dX13_isNextRow_24 : decode cX13_isNextRow 24 = .ok (.iadd, 1) := by decide +kernel
theorem dX13_isNextRow_25 : decode cX13_isNextRow 25 = .ok (.iastore, 1) := by decide +kernel
theorem dX13_isNextRow_26 : decode cX13_isNextRow 26 = .ok (.aload_n 0, 1) := by decide +kernel
theorem dX13_isNextRow_27 : decode cX13_isNextRow 27 = .ok (.getfield 50, 3) := by decide +kernel
theorem dX13_isNextRow_30 : decode cX13_isNextRow 30 = .ok (.iload 5, 2) := by decide +kernel
theorem dX13_isNextRow_32 : decode cX13_isNextRow 32 = .ok (.iaload, 1) := by decide +kernel
theorem dX13_isNextRow_33 : decode cX13_isNextRow 33 = .ok (.aload_n 0, 1) := by decide +kernel
theorem dX13_isNextRow_34 : decode cX13_isNextRow 34 = .ok (.getfield 7, 3) := by decide +kernel
theorem dX13_isNextRow_37 : decode cX13_isNextRow 37 = .ok (.iconst 0, 1) := by decide +kernel
theorem dX13_isNextRow_38 : decode cX13_isNextRow 38 = .ok (.iaload, 1) := by decide +kernel
theorem dX13_isNextRow_39 : decode cX13_isNextRow 39 = .ok (.if_icmp .ge 28, 3) := by decide +kernel
theorem dX13_isNextRow_42 : decode cX13_isNextRow 42 = .ok (.aload_n 0, 1) := by decide +kernel
theorem dX13_isNextRow_43 : decode cX13_isNextRow 43 = .ok (.iload 5, 2) := by decide +kernel
theorem dX13_isNextRow_45 : decode cX13_isNextRow 45 = .ok (.iload_n 2, 1) := by decide +kernel
theorem dX13_isNextRow_46 : decode cX13_isNextRow 46 = .ok (.iload_n 3, 1) := by decide +kernel
theorem dX13_isNextRow_47 : decode cX13_isNextRow 47 = .ok (.invokevirtual 416, 3) := by decide +kernel
theorem dX13_isNextRow_50 : decode cX13_isNextRow 50 = .ok (.ifCond .ne 17, 3) := by decide +kernel
theorem dX13_isNextRow_53 : decode cX13_isNextRow 53 = .ok (.aload_n 0, 1) := by decide +kernel
theorem dX13_isNextRow_54 : decode cX13_isNextRow 54 = .ok (.getfield 50, 3) := by decide +kernel
theorem dX13_isNextRow_57 : decode cX13_isNextRow 57 = .ok (.iload 5, 2) := by decide +kernel
theorem dX13_isNextRow_59 : decode cX13_isNextRow 59 = .ok (.dup2, 1) := by decide +kernel
theorem dX13_isNextRow_60 : decode cX13_isNextRow 60 = .ok (.iaload, 1) := by decide +kernel
theorem dX13_isNextRow_61 : decode cX13_isNextRow 61 = .ok (.iconst 1, 1) := by decide +kernel
theorem dX13_isNextRow_62 : decode cX13_isNextRow 62 = .ok (.iadd, 1) := by decide +kernel
theorem dX13_isNextRow_63 : decode cX13_isNextRow 63 = .ok (.iastore, 1) := by decide +kernel
theorem dX13_isNextRow_64 : decode cX13_isNextRow 64 = .ok (.goto (-38), 3) := by decide +kernel
theorem dX13_isNextRow_67 : decode cX13_isNextRow 67 = .ok (.aload_n 0, 1) := by decide +kernel
theorem dX13_isNextRow_68 : decode cX13_isNextRow 68 = .ok (.getfield 50, 3) := by decide +kernel
theorem dX13_isNextRow_71 : decode cX13_isNextRow 71 = .ok (.iload 5, 2) := by decide +kernel
theorem dX13_isNextRow_73 : decode cX13_isNextRow 73 = .ok (.iaload, 1) := by decide +kernel
theorem dX13_isNextRow_74 : decode cX13_isNextRow 74 = .ok (.aload_n 0, 1) := by decide +kernel
theorem dX13_isNextRow_75 : decode cX13_isNextRow 75 = .ok (.getfield 7, 3) := by decide +kernel
theorem dX13_isNextRow_78 : decode cX13_isNextRow 78 = .ok (.iconst 0, 1) := by decide +kernel
theorem dX13_isNextRow_79 : decode cX13_isNextRow 79 = .ok (.iaload, 1) := by decide +kernel
theorem dX13_isNextRow_80 : decode cX13_isNextRow 80 = .ok (.if_icmp .ge 23, 3) := by decide +kernel
theorem dX13_isNextRow_83 : decode cX13_isNextRow 83 = .ok (.iinc 5 1, 3) := by decide +kernel
theorem dX13_isNextRow_86 : decode cX13_isNextRow 86 = .ok (.iload 5, 2) := by decide +kernel
theorem dX13_isNextRow_88 : decode cX13_isNextRow 88 = .ok (.iload_n 1, 1) := by decide +kernel
theorem dX13_isNextRow_89 : decode cX13_isNextRow 89 = .ok (.if_icmp .ge (-85), 3) := by decide +kernel
theorem dX13_isNextRow_92 : decode cX13_isNextRow 92 = .ok (.aload_n 0, 1) := by decide +kernel
theorem dX13_isNextRow_93 : decode cX13_isNextRow 93 = .ok (.getfield 50, 3) := by decide +kernel
theorem dX13_isNextRow_96 : decode cX13_isNextRow 96 = .ok (.iload 5, 2) := by decide +kernel
theorem dX13_isNextRow_98 : decode cX13_isNextRow 98 = .ok (.iconst (-1), 1) := by decide +kernel
theorem dX13_isNextRow_99 : decode cX13_isNextRow 99 = .ok (.iastore, 1) := by decide +kernel
theorem dX13_isNextRow_100 : decode cX13_isNextRow 100 = .ok (.goto (-96), 3) := by decide +kernel
theorem dX13_isNextRow_103 : decode cX13_isNextRow 103 = .ok (.iinc 5 (-1), 3) := by decide +kernel
theorem dX13_isNextRow_106 : decode cX13_isNextRow 106 = .ok (.goto (-102), 3) := by decide +kernel
theorem dX13_isNextRow_109 : decode cX13_isNextRow 109 = .ok (.iload 5, 2) := by decide +kernel
theorem dX13_isNextRow_111 : decode cX13_isNextRow 111 = .ok (.ifCond .lt 7, 3) := by decide +kernel
theorem dX13_isNextRow_114 : decode cX13_isNextRow 114 = .ok (.iconst 1, 1) := by decide +kernel
theorem dX13_isNextRow_115 : decode cX13_isNextRow 115 = .ok (.goto 4, 3) := by decide +kernel
theorem dX13_isNextRow_118 : decode cX13_isNextRow 118 = .ok (.iconst 0, 1) := by decide +kernel
theorem dX13_isNextRow_119 : decode cX13_isNextRow 119 = .ok (.ireturn, 1) := by decide +kernel
theorem BX13_isNextRow_0 {d bc bs : Nat} {h : aH} {n : Nat} {Q : aQ} {r0 : Option Nat} {x1 x2 x3 x4 : Int} {l5 : Option aV} (k : Rn d bc bs mX13_isNextRow 4 [some (vR r0), some (vI x1), some (vI x2), some (vI x3), some (vI x4), some (vI x4)] [] h n Q) : Rn d (bc) (bs) mX13_isNextRow 0 [some (vR r0), some (vI x1), some (vI x2), some (vI x3), some (vI x4), l5] [] h n Q := by
  refine Rn_iload dX13_isNextRow_0 rfl ?_
  refine Rn_istore dX13_isNextRow_2 (Nat.le_of_ble_eq_true rfl) rfl rfl ?_
  exact k
theorem BX13_isNextRow_4 {d bc bs : Nat} {h : aH} {n : Nat} {Q : aQ} {r0 : Option Nat} {x1 x2 x3 x4 x5 : Int} (kt : x5 < 0 → Rn d bc bs mX13_isNextRow 109 [some (vR r0), some (vI x1), some (vI x2), some (vI x3), some (vI x4), some (vI x5)] [] h n Q) (kf : 0 ≤ x5 → Rn d bc bs mX13_isNextRow 9 [some (vR r0), some (vI x1), some (vI x2), some (vI x3), some (vI x4), some (vI x5)] [] h n Q) : Rn d (bc) (bs) mX13_isNextRow 4 [some (vR r0), some (vI x1), some (vI x2), some (vI x3), some (vI x4), some (vI x5)] [] h n Q := by
  refine Rn_iload dX13_isNextRow_4 rfl ?_
  refine Rn_iflt (tgt := 109) dX13_isNextRow_6 rfl ?_ ?_
  · exact kt
  · exact kf
theorem BX13_isNextRow_9 {d bc bs : Nat} {h : aH} {n : Nat} {Q : aQ} {r0 : Option Nat} {x1 x2 x3 x4 x5 : Int} (kt : x1 ≤ x5 → Rn d bc bs mX13_isNextRow 109 [some (vR r0), some (vI x1), some (vI x2), some (vI x3), some (vI x4), some (vI x5)] [] h n Q) (kf : x5 < x1 → Rn d bc bs mX13_isNextRow 15 [some (vR r0), some (vI x1), some (vI x2), some (vI x3), some (vI x4), some (vI x5)] [] h n Q) : Rn d (bc) (bs) mX13_isNextRow 9 [some (vR r0), some (vI x1), some (vI x2), some (vI x3), some (vI x4), some (vI x5)] [] h n Q := by
  refine Rn_iload dX13_isNextRow_9 rfl ?_
  refine Rn_iload_n dX13_isNextRow_11 rfl rfl ?_
  refine Rn_icmpge (tgt := 109) dX13_isNextRow_12 rfl ?_ ?_
  · exact kt
  · exact kf
theorem BX13_isNextRow_15 {d bc bs : Nat} {h : aH} {n : Nat} {Q : aQ} {ar0 at3 : Nat} {x1 x2 x3 x4 x5 v7 : Int} {f1 : List aV} {w5 : List Int} (h2 : h ar0 = cO 13 f1) (g4 : f1[26]? = some (vR (some at3))) (h6 : h at3 = cI w5) (i8 : 0 ≤ x5) (g9 : w5[(x5 : Int).toNat]? = some v7) (b10 : -2147483648 ≤ v7 + 1 ∧ v7 + 1 < 2147483648) (j11 : x5 < w5.length) (z12 : at3 ≠ 0) (k : Rn d bc bs mX13_isNextRow 26 [some (vR (some ar0)), some (vI x1), some (vI x2), some (vI x3), some (vI x4), some (vI x5)] [] (up h at3 (cI (w5.set (x5 : Int).toNat (v7 + 1)))) n Q) : Rn d (bc) (bs) mX13_isNextRow 15 [some (vR (some ar0)), some (vI x1), some (vI x2), some (vI x3), some (vI x4), some (vI x5)] [] h n Q := by
  refine Rn_aload_n dX13_isNextRow_15 rfl rfl rfl ?_
  refine Rn_getfield (ci := 13) (k := 26) dX13_isNextRow_16 rfl in_13 (Nat.le_of_ble_eq_true rfl) wd_1378 rfl h2 g4 ?_
  refine Rn_iload dX13_isNextRow_19 rfl ?_
  refine Rn_dup2 dX13_isNextRow_21 rfl rfl ?_
  refine Rn_iaload dX13_isNextRow_22 h6 i8 g9 ?_
  refine Rn_iconst dX13_isNextRow_23 rfl ?_
  refine Rn_iadd dX13_isNextRow_24 ?_
  rw [w32_id b10.1 b10.2]
  refine Rn_iastore dX13_isNextRow_25 z12 h6 i8 j11 ?_
  exact k
theorem BX13_isNextRow_26 {d bc bs : Nat} {h : aH} {n : Nat} {Q : aQ} {ar0 at3 at10 : Nat} {x1 x2 x3 x4 x5 v7 v14 : Int} {f1 : List aV} {w5 w12 : List Int} (h2 : h ar0 = cO 13 f1) (g4 : f1[26]? = some (vR (some at3))) (h6 : h at3 = cI w5) (i8 : 0 ≤ x5) (g9 : w5[(x5 : Int).toNat]? = some v7) (g11 : f1[0]? = some (vR (some at10))) (h13 : h at10 = cI w12) (g15 : w12[(0 : Int).toNat]? = some v14) (kt : v14 ≤ v7 → Rn d bc bs mX13_isNextRow 67 [some (vR (some ar0)), some (vI x1), some (vI x2), some (vI x3), some (vI x4), some (vI x5)] [] h n Q) (kf : v7 < v14 → Rn d bc bs mX13_isNextRow 42 [some (vR (some ar0)), some (vI x1), some (vI x2), some (vI x3), some (vI x4), some (vI x5)] [] h n Q) : Rn d (bc) (bs) mX13_isNextRow 26 [some (vR (some ar0)), some (vI x1), some (vI x2), some (vI x3), some (vI x4), some (vI x5)] [] h n Q := by
  refine Rn_aload_n dX13_isNextRow_26 rfl rfl rfl ?_
  refine Rn_getfield (ci := 13) (k := 26) dX13_isNextRow_27 rfl in_13 (Nat.le_of_ble_eq_true rfl) wd_1378 rfl h2 g4 ?_
  refine Rn_iload dX13_isNextRow_30 rfl ?_
  refine Rn_iaload dX13_isNextRow_32 h6 i8 g9 ?_
  refine Rn_aload_n dX13_isNextRow_33 rfl rfl rfl ?_
  refine Rn_getfield (ci := 13) (k := 0) dX13_isNextRow_34 rfl in_13 (Nat.le_of_ble_eq_true rfl) wd_1352 rfl h2 g11 ?_
  refine Rn_iconst dX13_isNextRow_37 rfl ?_
  refine Rn_iaload dX13_isNextRow_38 h13 (by decide) g15 ?_
  refine Rn_icmpge (tgt := 67) dX13_isNextRow_39 rfl ?_ ?_
  · exact kt
  · exact kf
theorem BX13_isNextRow_42 {d bc bs : Nat} {h : aH} {n : Nat} {Q : aQ} {ar0 : Nat} {x1 x2 x3 x4 x5 : Int} {f1 : List aV} (h2 : h ar0 = cO 13 f1) (k : Rn d 0 0 mX13_isNew 0 [some (vR (some ar0)), some (vI x5), some (vI x2), some (vI x3), none] [] h n (fun v h1 n1 => Rn (d + 1) bc bs mX13_isNextRow 50 [some (vR (some ar0)), some (vI x1), some (vI x2), some (vI x3), some (vI x4), some (vI x5)] (v.toList ++ []) h1 n1 Q)) : Rn (d + 1) (bc) (bs) mX13_isNextRow 42 [some (vR (some ar0)), some (vI x1), some (vI x2), some (vI x3), some (vI x4), some (vI x5)] [] h n Q := by
  refine Rn_aload_n dX13_isNextRow_42 rfl rfl rfl ?_
  refine Rn_iload dX13_isNextRow_43 rfl ?_
  refine Rn_iload_n dX13_isNextRow_45 rfl rfl ?_
  refine Rn_iload_n dX13_isNextRow_46 rfl rfl ?_
  exact Rn_callV (ci := 13) (avs := [vI x5, vI x2, vI x3]) (st := []) (bc1 := 0) (bs1 := 0) (bc2 := bc) (bs2 := bs) fx_X13_isNew dX13_isNextRow_47 wd_1899 wd_1901 wd_110 rfl h2 rfl (Nat.le_of_ble_eq_true rfl) (Nat.le_of_ble_eq_true rfl) (by omega) (by omega) (ls1 := [some (vR (some ar0)), some (vI x5), some (vI x2), some (vI x3), none]) rfl k
theorem BX13_isNextRow_50 {d bc bs : Nat} {h : aH} {n : Nat} {Q : aQ} {r0 : Option Nat} {x1 x2 x3 x4 x5 s0 : Int} (kt : s0 ≠ 0 → Rn d bc bs mX13_isNextRow 67 [some (vR r0), some (vI x1), some (vI x2), some (vI x3), some (vI x4), some (vI x5)] [] h n Q) (kf : s0 = 0 → Rn d bc bs mX13_isNextRow 53 [some (vR r0), some (vI x1), some (vI x2), some (vI x3), some (vI x4), some (vI x5)] [] h n Q) : Rn d (bc) (bs) mX13_isNextRow 50 [some (vR r0), some (vI x1), some (vI x2), some (vI x3), some (vI x4), some (vI x5)] [vI s0] h n Q := by
  refine Rn_ifne (tgt := 67) dX13_isNextRow_50 rfl ?_ ?_
  · exact kt
  · exact kf
theorem BX13_isNextRow_53 {d bc bs : Nat} {h : aH} {n : Nat} {Q : aQ} {ar0 at3 : Nat} {x1 x2 x3 x4 x5 v7 : Int} {f1 : List aV} {w5 : List Int} (h2 : h ar0 = cO 13 f1) (g4 : f1[26]? = some (vR (some at3))) (h6 : h at3 = cI w5) (i8 : 0 ≤ x5) (g9 : w5[(x5 : Int).toNat]? = some v7) (b10 : -2147483648 ≤ v7 + 1 ∧ v7 + 1 < 2147483648) (j11 : x5 < w5.length) (z12 : at3 ≠ 0) (k : Rn d bc bs mX13_isNextRow 64 [some (vR (some ar0)), some (vI x1), some (vI x2), some (vI x3), some (vI x4), some (vI x5)] [] (up h at3 (cI (w5.set (x5 : Int).toNat (v7 + 1)))) n Q) : Rn d (bc) (bs) mX13_isNextRow 53 [some (vR (some ar0)), some (vI x1), some (vI x2), some (vI x3), some (vI x4), some (vI x5)] [] h n Q := by
  refine Rn_aload_n dX13_isNextRow_53 rfl rfl rfl ?_
  refine Rn_getfield (ci := 13) (k := 26) dX13_isNextRow_54 rfl in_13 (Nat.le_of_ble_eq_true rfl) wd_1378 rfl h2 g4 ?_
  refine Rn_iload dX13_isNextRow_57 rfl ?_
  refine Rn_dup2 dX13_isNextRow_59 rfl rfl ?_
  refine Rn_iaload dX13_isNextRow_60 h6 i8 g9 ?_
  refine Rn_iconst dX13_isNextRow_61 rfl ?_
  refine Rn_iadd dX13_isNextRow_62 ?_
  rw [w32_id b10.1 b10.2]
  refine Rn_iastore dX13_isNextRow_63 z12 h6 i8 j11 ?_
  exact k
theorem BX13_isNextRow_64 {d bc bs : Nat} {h : aH} {n : Nat} {Q : aQ} {r0 : Option Nat} {x1 x2 x3 x4 x5 : Int} (k : Rn d bc bs mX13_isNextRow 26 [some (vR r0), some (vI x1), some (vI x2), some (vI x3), some (vI x4), some (vI x5)] [] h n Q) : Rn d (bc) (bs) mX13_isNextRow 64 [some (vR r0), some (vI x1), some (vI x2), some (vI x3), some (vI x4), some (vI x5)] [] h n Q := by
  refine Rn_goto (tgt := 26) dX13_isNextRow_64 rfl ?_
  exact k
theorem BX13_isNextRow_67 {d bc bs : Nat} {h : aH} {n : Nat} {Q : aQ} {ar0 at3 at10 : Nat} {x1 x2 x3 x4 x5 v7 v14 : Int} {f1 : List aV} {w5 w12 : List Int} (h2 : h ar0 = cO 13 f1) (g4 : f1[26]? = some (vR (some at3))) (h6 : h at3 = cI w5) (i8 : 0 ≤ x5) (g9 : w5[(x5 : Int).toNat]? = some v7) (g11 : f1[0]? = some (vR (some at10))) (h13 : h at10 = cI w12) (g15 : w12[(0 : Int).toNat]? = some v14) (kt : v14 ≤ v7 → Rn d bc bs mX13_isNextRow 103 [some (vR (some ar0)), some (vI x1), some (vI x2), some (vI x3), some (vI x4), some (vI x5)] [] h n Q) (kf : v7 < v14 → Rn d bc bs mX13_isNextRow 83 [some (vR (some ar0)), some (vI x1), some (vI x2), some (vI x3), some (vI x4), some (vI x5)] [] h n Q) : Rn d (bc) (bs) mX13_isNextRow 67 [some (vR (some ar0)), some (vI x1), some (vI x2), some (vI x3), some (vI x4), some (vI x5)] [] h n Q := by
  refine Rn_aload_n dX13_isNextRow_67 rfl rfl rfl ?_
  refine Rn_getfield (ci := 13) (k := 26) dX13_isNextRow_68 rfl in_13 (Nat.le_of_ble_eq_true rfl) wd_1378 rfl h2 g4 ?_
  refine Rn_iload dX13_isNextRow_71 rfl ?_
  refine Rn_iaload dX13_isNextRow_73 h6 i8 g9 ?_
  refine Rn_aload_n dX13_isNextRow_74 rfl rfl rfl ?_
  refine Rn_getfield (ci := 13) (k := 0) dX13_isNextRow_75 rfl in_13 (Nat.le_of_ble_eq_true rfl) wd_1352 rfl h2 g11 ?_
  refine Rn_iconst dX13_isNextRow_78 rfl ?_
  refine Rn_iaload dX13_isNextRow_79 h13 (by decide) g15 ?_
  refine Rn_icmpge (tgt := 103) dX13_isNextRow_80 rfl ?_ ?_
  · exact kt
  · exact kf
theorem BX13_isNextRow_83 {d bc bs : Nat} {h : aH} {n : Nat} {Q : aQ} {r0 : Option Nat} {x1 x2 x3 x4 x5 : Int} (b1 : -2147483648 ≤ x5 + 1 ∧ x5 + 1 < 2147483648) (kt : x1 ≤ (x5 + 1) → Rn d bc bs mX13_isNextRow 4 [some (vR r0), some (vI x1), some (vI x2), some (vI x3), some (vI x4), some (vI (x5 + 1))] [] h n Q) (kf : (x5 + 1) < x1 → Rn d bc bs mX13_isNextRow 92 [some (vR r0), some (vI x1), some (vI x2), some (vI x3), some (vI x4), some (vI (x5 + 1))] [] h n Q) : Rn d (bc) (bs) mX13_isNextRow 83 [some (vR r0), some (vI x1), some (vI x2), some (vI x3), some (vI x4), some (vI x5)] [] h n Q := by
  refine Rn_iinc dX13_isNextRow_83 rfl (Nat.le_of_ble_eq_true rfl) rfl rfl rfl ?_
  rw [w32_id b1.1 b1.2]
  refine Rn_iload dX13_isNextRow_86 rfl ?_
  refine Rn_iload_n dX13_isNextRow_88 rfl rfl ?_
  refine Rn_icmpge (tgt := 4) dX13_isNextRow_89 rfl ?_ ?_
  · exact kt
  · exact kf
theorem BX13_isNextRow_92 {d bc bs : Nat} {h : aH} {n : Nat} {Q : aQ} {ar0 at3 : Nat} {x1 x2 x3 x4 x5 : Int} {f1 : List aV} {w5 : List Int} (h2 : h ar0 = cO 13 f1) (g4 : f1[26]? = some (vR (some at3))) (h6 : h at3 = cI w5) (i7 : 0 ≤ x5) (j8 : x5 < w5.length) (z9 : at3 ≠ 0) (k : Rn d bc bs mX13_isNextRow 100 [some (vR (some ar0)), some (vI x1), some (vI x2), some (vI x3), some (vI x4), some (vI x5)] [] (up h at3 (cI (w5.set (x5 : Int).toNat (-1)))) n Q) : Rn d (bc) (bs) mX13_isNextRow 92 [some (vR (some ar0)), some (vI x1), some (vI x2), some (vI x3), some (vI x4), some (vI x5)] [] h n Q := by
  refine Rn_aload_n dX13_isNextRow_92 rfl rfl rfl ?_
  refine Rn_getfield (ci := 13) (k := 26) dX13_isNextRow_93 rfl in_13 (Nat.le_of_ble_eq_true rfl) wd_1378 rfl h2 g4 ?_
  refine Rn_iload dX13_isNextRow_96 rfl ?_
  refine Rn_iconst dX13_isNextRow_98 rfl ?_
  refine Rn_iastore dX13_isNextRow_99 z9 h6 i7 j8 ?_
  exact k
theorem BX13_isNextRow_100 {d bc bs : Nat} {h : aH} {n : Nat} {Q : aQ} {r0 : Option Nat} {x1 x2 x3 x4 x5 : Int} (k : Rn d bc bs mX13_isNextRow 4 [some (vR r0), some (vI x1), some (vI x2), some (vI x3), some (vI x4), some (vI x5)] [] h n Q) : Rn d (bc) (bs) mX13_isNextRow 100 [some (vR r0), some (vI x1), some (vI x2), some (vI x3), some (vI x4), some (vI x5)] [] h n Q := by
  refine Rn_goto (tgt := 4) dX13_isNextRow_100 rfl ?_
  exact k
theorem BX13_isNextRow_103 {d bc bs : Nat} {h : aH} {n : Nat} {Q : aQ} {r0 : Option Nat} {x1 x2 x3 x4 x5 : Int} (b1 : -2147483648 ≤ x5 + (-1) ∧ x5 + (-1) < 2147483648) (k : Rn d bc bs mX13_isNextRow 4 [some (vR r0), some (vI x1), some (vI x2), some (vI x3), some (vI x4), some (vI (x5 + (-1)))] [] h n Q) : Rn d (bc) (bs) mX13_isNextRow 103 [some (vR r0), some (vI x1), some (vI x2), some (vI x3), some (vI x4), some (vI x5)] [] h n Q := by
  refine Rn_iinc dX13_isNextRow_103 rfl (Nat.le_of_ble_eq_true rfl) rfl rfl rfl ?_
  rw [w32_id b1.1 b1.2]
  refine Rn_goto (tgt := 4) dX13_isNextRow_106 rfl ?_
  exact k
theorem BX13_isNextRow_109 {d bc bs : Nat} {h : aH} {n : Nat} {Q : aQ} {r0 : Option Nat} {x1 x2 x3 x4 x5 : Int} (kt : x5 < 0 → Rn d bc bs mX13_isNextRow 118 [some (vR r0), some (vI x1), some (vI x2), some (vI x3), some (vI x4), some (vI x5)] [] h n Q) (kf : 0 ≤ x5 → Rn d bc bs mX13_isNextRow 114 [some (vR r0), some (vI x1), some (vI x2), some (vI x3), some (vI x4), some (vI x5)] [] h n Q) : Rn d (bc) (bs) mX13_isNextRow 109 [some (vR r0), some (vI x1), some (vI x2), some (vI x3), some (vI x4), some (vI x5)] [] h n Q := by
  refine Rn_iload dX13_isNextRow_109 rfl ?_
  refine Rn_iflt (tgt := 118) dX13_isNextRow_111 rfl ?_ ?_
  · exact kt
  · exact kf
theorem BX13_isNextRow_114 {d bc bs : Nat} {h : aH} {n : Nat} {Q : aQ} {r0 : Option Nat} {x1 x2 x3 x4 x5 : Int} (k : Q (some (vI 1)) h n) : Rn d (bc) (bs) mX13_isNextRow 114 [some (vR r0), some (vI x1), some (vI x2), some (vI x3), some (vI x4), some (vI x5)] [] h n Q := by
  refine Rn_iconst dX13_isNextRow_114 rfl ?_
  refine Rn_goto (tgt := 119) dX13_isNextRow_115 rfl ?_
  exact Rn_zreturn rfl dX13_isNextRow_119 (by decide) k
theorem BX13_isNextRow_118 {d bc bs : Nat} {h : aH} {n : Nat} {Q : aQ} {r0 : Option Nat} {x1 x2 x3 x4 x5 : Int} (k : Q (some (vI 0)) h n) : Rn d (bc) (bs) mX13_isNextRow 118 [some (vR r0), some (vI x1), some (vI x2), some (vI x3), some (vI x4), some (vI x5)] [] h n Q := by
  refine Rn_iconst dX13_isNextRow_118 rfl ?_
  exact Rn_zreturn rfl dX13_isNextRow_119 (by decide) k
