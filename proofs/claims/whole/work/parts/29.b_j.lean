theorem dX13_isNew_0 : decode cX13_isNew 0 = .ok (.iconst 0, 1) := by decide +kernel
theorem dX13_isNew_1 : decode cX13_isNew 1 = .ok (.istore 4, 2) := by decide +kernel
theorem dX13_isNew_3 : decode cX13_isNew 3 = .ok (.iload 4, 2) := by decide +kernel
theorem dX13_isNew_5 : decode cX13_isNew 5 = .ok (.iload_n 1, 1) := by decide +kernel
theorem dX13_isNew_6 : decode cX13_isNew 6 = .ok (.if_icmp .ge 27, 3) := by decide +kernel
theorem dX13_isNew_9 : decode cX13_isNew 9 = .ok (.aload_n 0, 1) := by decide +kernel
theorem dX13_isNew_10 : decode cX13_isNew 10 = .ok (.getfield 50, 3) := by decide +kernel
theorem dX13_isNew_13 : decode cX13_isNew 13 = .ok (.iload 4, 2) := by decide +kernel
theorem dX13_isNew_15 : decode cX13_isNew 15 = .ok (.iaload, 1) := by decide +kernel
theorem dX13_isNew_16 : decode cX13_isNew 16 = .ok (.aload_n 0, 1) := by decide +kernel
theorem dX13_isNew_17 : decode cX13_isNew 17 = .ok (.getfield 50, 3) := by decide +kernel
theorem dX13_isNew_20 : decode cX13_isNew 20 = .ok (.iload_n 1, 1) := by decide +kernel
theorem dX13_isNew_21 : decode cX13_isNew 21 = .ok (.iaload, 1) := by decide +kernel
theorem dX13_isNew_22 : decode cX13_isNew 22 = .ok (.if_icmp .ne 5, 3) := by decide +kernel
theorem dX13_isNew_25 : decode cX13_isNew 25 = .ok (.iconst 0, 1) := by decide +kernel
theorem dX13_isNew_26 : decode cX13_isNew 26 = .ok (.ireturn, 1) := by decide +kernel
theorem dX13_isNew_27 : decode cX13_isNew 27 = .ok (.iinc 4 1, 3) := by decide +kernel
theorem dX13_isNew_30 : decode cX13_isNew 30 = .ok (.goto (-27), 3) := by decide +kernel
theorem dX13_isNew_33 : decode cX13_isNew 33 = .ok (.aload_n 0, 1) := by decide +kernel
theorem dX13_isNew_34 : decode cX13_isNew 34 = .ok (.getfield 50, 3) := by decide +kernel
theorem dX13_isNew_37 : decode cX13_isNew 37 = .ok (.iload_n 1, 1) := by decide +kernel
theorem dX13_isNew_38 : decode cX13_isNew 38 = .ok (.iaload, 1) := by decide +kernel
theorem dX13_isNew_39 : decode cX13_isNew 39 = .ok (.iload_n 2, 1) := by decide +kernel
theorem dX13_isNew_40 : decode cX13_isNew 40 = .ok (.if_icmp .eq 17, 3) := by decide +kernel
theorem dX13_isNew_43 : decode cX13_isNew 43 = .ok (.aload_n 0, 1) := by decide +kernel
theorem dX13_isNew_44 : decode cX13_isNew 44 = .ok (.getfield 50, 3) := by decide +kernel
theorem dX13_isNew_47 : decode cX13_isNew 47 = .ok (.iload_n 1, 1) := by decide +kernel
theorem dX13_isNew_48 : decode cX13_isNew 48 = .ok (.iaload, 1) := by decide +kernel
theorem dX13_isNew_49 : decode cX13_isNew 49 = .ok (.iload_n 3, 1) := by decide +kernel
theorem dX13_isNew_50 : decode cX13_isNew 50 = .ok (.if_icmp .eq 7, 3) := by decide +kernel
theorem dX13_isNew_53 : decode cX13_isNew 53 = .ok (.iconst 1, 1) := by decide +kernel
theorem dX13_isNew_54 : decode cX13_isNew 54 = .ok (.goto 4, 3) := by decide +kernel
theorem dX13_isNew_57 : decode cX13_isNew 57 = .ok (.iconst 0, 1) := by decide +kernel
theorem dX13_isNew_58 : decode cX13_isNew 58 = .ok (.ireturn, 1) := by decide +kernel
theorem BX13_isNew_0 {d bc bs : Nat} {h : aH} {n : Nat} {Q : aQ} {r0 : Option Nat} {x1 x2 x3 : Int} {l4 : Option aV} (k : Rn d bc bs mX13_isNew 3 [some (vR r0), some (vI x1), some (vI x2), some (vI x3), some (vI 0)] [] h n Q) : Rn d (bc) (bs) mX13_isNew 0 [some (vR r0), some (vI x1), some (vI x2), some (vI x3), l4] [] h n Q := by
  refine Rn_iconst dX13_isNew_0 rfl ?_
  refine Rn_istore dX13_isNew_1 (Nat.le_of_ble_eq_true rfl) rfl rfl ?_
  exact k
theorem BX13_isNew_3 {d bc bs : Nat} {h : aH} {n : Nat} {Q : aQ} {r0 : Option Nat} {x1 x2 x3 x4 : Int} (kt : x1 ≤ x4 → Rn d bc bs mX13_isNew 33 [some (vR r0), some (vI x1), some (vI x2), some (vI x3), some (vI x4)] [] h n Q) (kf : x4 < x1 → Rn d bc bs mX13_isNew 9 [some (vR r0), some (vI x1), some (vI x2), some (vI x3), some (vI x4)] [] h n Q) : Rn d (bc) (bs) mX13_isNew 3 [some (vR r0), some (vI x1), some (vI x2), some (vI x3), some (vI x4)] [] h n Q := by
  refine Rn_iload dX13_isNew_3 rfl ?_
  refine Rn_iload_n dX13_isNew_5 rfl rfl ?_
  refine Rn_icmpge (tgt := 33) dX13_isNew_6 rfl ?_ ?_
  · exact kt
  · exact kf
theorem BX13_isNew_9 {d bc bs : Nat} {h : aH} {n : Nat} {Q : aQ} {ar0 at3 : Nat} {x1 x2 x3 x4 v7 v10 : Int} {f1 : List aV} {w5 : List Int} (h2 : h ar0 = cO 13 f1) (g4 : f1[26]? = some (vR (some at3))) (h6 : h at3 = cI w5) (i8 : 0 ≤ x4) (g9 : w5[(x4 : Int).toNat]? = some v7) (i11 : 0 ≤ x1) (g12 : w5[(x1 : Int).toNat]? = some v10) (kt : v7 ≠ v10 → Rn d bc bs mX13_isNew 27 [some (vR (some ar0)), some (vI x1), some (vI x2), some (vI x3), some (vI x4)] [] h n Q) (kf : v7 = v10 → Rn d bc bs mX13_isNew 25 [some (vR (some ar0)), some (vI x1), some (vI x2), some (vI x3), some (vI x4)] [] h n Q) : Rn d (bc) (bs) mX13_isNew 9 [some (vR (some ar0)), some (vI x1), some (vI x2), some (vI x3), some (vI x4)] [] h n Q := by
  refine Rn_aload_n dX13_isNew_9 rfl rfl rfl ?_
  refine Rn_getfield (ci := 13) (k := 26) dX13_isNew_10 rfl in_13 (Nat.le_of_ble_eq_true rfl) wd_1378 rfl h2 g4 ?_
  refine Rn_iload dX13_isNew_13 rfl ?_
  refine Rn_iaload dX13_isNew_15 h6 i8 g9 ?_
  refine Rn_aload_n dX13_isNew_16 rfl rfl rfl ?_
  refine Rn_getfield (ci := 13) (k := 26) dX13_isNew_17 rfl in_13 (Nat.le_of_ble_eq_true rfl) wd_1378 rfl h2 g4 ?_
  refine Rn_iload_n dX13_isNew_20 rfl rfl ?_
  refine Rn_iaload dX13_isNew_21 h6 i11 g12 ?_
  refine Rn_icmpne (tgt := 27) dX13_isNew_22 rfl ?_ ?_
  · exact kt
  · exact kf
theorem BX13_isNew_25 {d bc bs : Nat} {h : aH} {n : Nat} {Q : aQ} {r0 : Option Nat} {x1 x2 x3 x4 : Int} (k : Q (some (vI 0)) h n) : Rn d (bc) (bs) mX13_isNew 25 [some (vR r0), some (vI x1), some (vI x2), some (vI x3), some (vI x4)] [] h n Q := by
  refine Rn_iconst dX13_isNew_25 rfl ?_
  exact Rn_zreturn rfl dX13_isNew_26 (by decide) k
theorem BX13_isNew_27 {d bc bs : Nat} {h : aH} {n : Nat} {Q : aQ} {r0 : Option Nat} {x1 x2 x3 x4 : Int} (b1 : -2147483648 ≤ x4 + 1 ∧ x4 + 1 < 2147483648) (k : Rn d bc bs mX13_isNew 3 [some (vR r0), some (vI x1), some (vI x2), some (vI x3), some (vI (x4 + 1))] [] h n Q) : Rn d (bc) (bs) mX13_isNew 27 [some (vR r0), some (vI x1), some (vI x2), some (vI x3), some (vI x4)] [] h n Q := by
  refine Rn_iinc dX13_isNew_27 rfl (Nat.le_of_ble_eq_true rfl) rfl rfl rfl ?_
  rw [w32_id b1.1 b1.2]
  refine Rn_goto (tgt := 3) dX13_isNew_30 rfl ?_
  exact k
theorem BX13_isNew_33 {d bc bs : Nat} {h : aH} {n : Nat} {Q : aQ} {ar0 at3 : Nat} {x1 x2 x3 x4 v7 : Int} {f1 : List aV} {w5 : List Int} (h2 : h ar0 = cO 13 f1) (g4 : f1[26]? = some (vR (some at3))) (h6 : h at3 = cI w5) (i8 : 0 ≤ x1) (g9 : w5[(x1 : Int).toNat]? = some v7) (kt : v7 = x2 → Rn d bc bs mX13_isNew 57 [some (vR (some ar0)), some (vI x1), some (vI x2), some (vI x3), some (vI x4)] [] h n Q) (kf : v7 ≠ x2 → Rn d bc bs mX13_isNew 43 [some (vR (some ar0)), some (vI x1), some (vI x2), some (vI x3), some (vI x4)] [] h n Q) : Rn d (bc) (bs) mX13_isNew 33 [some (vR (some ar0)), some (vI x1), some (vI x2), some (vI x3), some (vI x4)] [] h n Q := by
  refine Rn_aload_n dX13_isNew_33 rfl rfl rfl ?_
  refine Rn_getfield (ci := 13) (k := 26) dX13_isNew_34 rfl in_13 (Nat.le_of_ble_eq_true rfl) wd_1378 rfl h2 g4 ?_
  refine Rn_iload_n dX13_isNew_37 rfl rfl ?_
  refine Rn_iaload dX13_isNew_38 h6 i8 g9 ?_
  refine Rn_iload_n dX13_isNew_39 rfl rfl ?_
  refine Rn_icmpeq (tgt := 57) dX13_isNew_40 rfl ?_ ?_
  · exact kt
  · exact kf
theorem BX13_isNew_43 {d bc bs : Nat} {h : aH} {n : Nat} {Q : aQ} {ar0 at3 : Nat} {x1 x2 x3 x4 v7 : Int} {f1 : List aV} {w5 : List Int} (h2 : h ar0 = cO 13 f1) (g4 : f1[26]? = some (vR (some at3))) (h6 : h at3 = cI w5) (i8 : 0 ≤ x1) (g9 : w5[(x1 : Int).toNat]? = some v7) (kt : v7 = x3 → Rn d bc bs mX13_isNew 57 [some (vR (some ar0)), some (vI x1), some (vI x2), some (vI x3), some (vI x4)] [] h n Q) (kf : v7 ≠ x3 → Rn d bc bs mX13_isNew 53 [some (vR (some ar0)), some (vI x1), some (vI x2), some (vI x3), some (vI x4)] [] h n Q) : Rn d (bc) (bs) mX13_isNew 43 [some (vR (some ar0)), some (vI x1), some (vI x2), some (vI x3), some (vI x4)] [] h n Q := by
  refine Rn_aload_n dX13_isNew_43 rfl rfl rfl ?_
  refine Rn_getfield (ci := 13) (k := 26) dX13_isNew_44 rfl in_13 (Nat.le_of_ble_eq_true rfl) wd_1378 rfl h2 g4 ?_
  refine Rn_iload_n dX13_isNew_47 rfl rfl ?_
  refine Rn_iaload dX13_isNew_48 h6 i8 g9 ?_
  refine Rn_iload_n dX13_isNew_49 rfl rfl ?_
  refine Rn_icmpeq (tgt := 57) dX13_isNew_50 rfl ?_ ?_
  · exact kt
  · exact kf
theorem BX13_isNew_53 {d bc bs : Nat} {h : aH} {n : Nat} {Q : aQ} {r0 : Option Nat} {x1 x2 x3 x4 : Int} (k : Q (some (vI 1)) h n) : Rn d (bc) (bs) mX13_isNew 53 [some (vR r0), some (vI x1), some (vI x2), some (vI x3), some (vI x4)] [] h n Q := by
  refine Rn_iconst dX13_isNew_53 rfl ?_
  refine Rn_goto (tgt := 58) dX13_isNew_54 rfl ?_
  exact Rn_zreturn rfl dX13_isNew_58 (by decide) k
theorem BX13_isNew_57 {d bc bs : Nat} {h : aH} {n : Nat} {Q : aQ} {r0 : Option Nat} {x1 x2 x3 x4 : Int} (k : Q (some (vI 0)) h n) : Rn d (bc) (bs) mX13_isNew 57 [some (vR r0), some (vI x1), some (vI x2), some (vI x3), some (vI x4)] [] h n Q := by
  refine Rn_iconst dX13_isNew_57 rfl ?_
  exact Rn_zreturn rfl dX13_isNew_58 (by decide) k
theorem dX13_layRelay_0 : decode cX13_layRelay 0 = .ok (.aload_n 0, 1) := by decide +kernel
theorem dX13_layRelay_1 : decode cX13_layRelay 1 = .ok (.ldc_w 412, 3) := by decide +kernel
theorem dX13_layRelay_4 : decode cX13_layRelay 4 = .ok (.putfield 419, 3) := by decide +kernel
theorem dX13_layRelay_7 : decode cX13_layRelay 7 = .ok (.iconst 0, 1) := by decide +kernel
theorem dX13_layRelay_8 : decode cX13_layRelay 8 = .ok (.istore_n 3, 1) := by decide +kernel
theorem dX13_layRelay_9 : decode cX13_layRelay 9 = .ok (.iload_n 3, 1) := by decide +kernel
theorem dX13_layRelay_10 : decode cX13_layRelay 10 = .ok (.iconst 5, 1) := by decide +kernel
theorem dX13_layRelay_11 : decode cX13_layRelay 11 = .ok (.if_icmp .ge 132, 3) := by decide +kernel
theorem dX13_layRelay_14 : decode cX13_layRelay 14 = .ok (.iload_n 3, 1) := by decide +kernel
theorem dX13_layRelay_15 : decode cX13_layRelay 15 = .ok (.ifCond .le 10, 3) := by decide +kernel
theorem dX13_layRelay_18 : decode cX13_layRelay 18 = .ok (.aload_n 0, 1) := by decide +kernel
theorem dX13_layRelay_19 : decode cX13_layRelay 19 = .ok (.getfield 50, 3) := by decide +kernel
theorem dX13_layRelay_22 : decode cX13_layRelay 22 = .ok (.iconst 0, 1) := by decide +kernel
theorem dX13_layRelay_23 : decode cX13_layRelay 23 = .ok (.iconst (-1), 1) := by decide +kernel
theorem dX13_layRelay_24 : decode cX13_layRelay 24 = .ok (.iastore, 1) := by decide +kernel
theorem dX13_layRelay_25 : decode cX13_layRelay 25 = .ok (.iload_n 3, 1) := by decide +kernel
theorem dX13_layRelay_26 : decode cX13_layRelay 26 = .ok (.ifCond .eq 14, 3) := by decide +kernel
theorem dX13_layRelay_29 : decode cX13_layRelay 29 = .ok (.aload_n 0, 1) := by decide +kernel
theorem dX13_layRelay_30 : decode cX13_layRelay 30 = .ok (.iload_n 3, 1) := by decide +kernel
theorem dX13_layRelay_31 : decode cX13_layRelay 31 = .ok (.iload_n 1, 1) := by decide +kernel
theorem dX13_layRelay_32 : decode cX13_layRelay 32 = .ok (.iload_n 2, 1) := by decide +kernel
theorem dX13_layRelay_33 : decode cX13_layRelay 33 = .ok (.iconst 0, 1) := by decide +kernel
theorem dX13_layRelay_34 : decode cX13_layRelay 34 = .ok (.invokevirtual 422, 3) := by decide +kernel
theorem dX13_layRelay_37 : decode cX13_layRelay 37 = .ok (.ifCond .eq 7, 3) := by decide +kernel
theorem dX13_layRelay_40 : decode cX13_layRelay 40 = .ok (.iconst 1, 1) := by decide +kernel
theorem dX13_layRelay_41 : decode cX13_layRelay 41 = .ok (.goto 4, 3) := by decide +kernel
theorem dX13_layRelay_44 : decode cX13_layRelay 44 = .ok (.iconst 0, 1) := by decide +kernel
theorem dX13_layRelay_45 : decode cX13_layRelay 45 = .ok (.istore 4, 2) := by decide +kernel
theorem dX13_layRelay_47 : decode cX13_layRelay 47 = .ok (.iload 4, 2) := by decide +kernel
theorem dX13_layRelay_49 : decode cX13_layRelay 49 = .ok (.ifCond .eq 88, 3) := by decide +kernel
theorem dX13_layRelay_52 : decode cX13_layRelay 52 = .ok (.aload_n 0, 1) := by decide +kernel
theorem dX13_layRelay_53 : decode cX13_layRelay 53 = .ok (.iload_n 1, 1) := by decide +kernel
theorem dX13_layRelay_54 : decode cX13_layRelay 54 = .ok (.iload_n 2, 1) := by decide +kernel
theorem dX13_layRelay_55 : decode cX13_layRelay 55 = .ok (.iload_n 3, 1) := by decide +kernel
theorem dX13_layRelay_56 : decode cX13_layRelay 56 = .ok (.invokevirtual 426, 3) := by decide +kernel
theorem dX13_layRelay_59 : decode cX13_layRelay 59 = .ok (.istore 5, 2) := by decide +kernel
theorem dX13_layRelay_61 : decode cX13_layRelay 61 = .ok (.iload 5, 2) := by decide +kernel
theorem dX13_layRelay_63 : decode cX13_layRelay 63 = .ok (.aload_n 0, 1) := by decide +kernel
theorem dX13_layRelay_64 : decode cX13_layRelay 64 = .ok (.getfield 419, 3) := by decide +kernel
theorem dX13_layRelay_67 : decode cX13_layRelay 67 = .ok (.if_icmp .ge 43, 3) := by decide +kernel
theorem dX13_layRelay_70 : decode cX13_layRelay 70 = .ok (.aload_n 0, 1) := by decide +kernel
theorem dX13_layRelay_71 : decode cX13_layRelay 71 = .ok (.iload 5, 2) := by decide +kernel
theorem dX13_layRelay_73 : decode cX13_layRelay 73 = .ok (.putfield 419, 3) := by decide +kernel
theorem dX13_layRelay_76 : decode cX13_layRelay 76 = .ok (.aload_n 0, 1) := by decide +kernel
theorem dX13_layRelay_77 : decode cX13_layRelay 77 = .ok (.iload_n 3, 1) := by decide +kernel
theorem dX13_layRelay_78 : decode cX13_layRelay 78 = .ok (.putfield 429, 3) := by decide +kernel
theorem dX13_layRelay_81 : decode cX13_layRelay 81 = .ok (.iconst 0, 1) := by decide +kernel
theorem dX13_layRelay_82 : decode cX13_layRelay 82 = .ok (.istore 6, 2) := by decide +kernel
theorem dX13_layRelay_84 : decode cX13_layRelay 84 = .ok (.iload 6, 2) := by decide +kernel
theorem dX13_layRelay_86 : decode cX13_layRelay 86 = .ok (.iload_n 3, 1) := by decide +kernel
theorem dX13_layRelay_87 : decode cX13_layRelay 87 = .ok (.if_icmp .ge 23, 3) := by decide +kernel
theorem dX13_layRelay_90 : decode cX13_layRelay 90 = .ok (.aload_n 0, 1) := by decide +kernel
theorem dX13_layRelay_91 : decode cX13_layRelay 91 = .ok (.getfield 53, 3) := by decide +kernel
theorem dX13_layRelay_94 : decode cX13_layRelay 94 = .ok (.iload 6, 2) := by decide +kernel
theorem dX13_layRelay_96 : decode cX13_layRelay 96 = .ok (.aload_n 0, 1) := by decide +kernel
theorem dX13_layRelay_97 : decode cX13_layRelay 97 = .ok (.getfield 50, 3) := by decide +kernel
theorem dX13_layRelay_100 : decode cX13_layRelay 100 = .ok (.iload 6, 2) := by decide +kernel
theorem dX13_layRelay_102 : decode cX13_layRelay 102 = .ok (.iaload, 1) := by decide +kernel
theorem dX13_layRelay_103 : decode cX13_layRelay 103 = .ok (.iastore, 1) := by decide +kernel
theorem dX13_layRelay_104 : decode cX13_layRelay 104 = .ok (.iinc 6 1, 3) := by decide +kernel
theorem dX13_layRelay_107 : decode cX13_layRelay 107 = .ok (.goto (-23), 3) := by decide +kernel
theorem dX13_layRelay_110 : decode cX13_layRelay 110 = .ok (.iload_n 3, 1) := by decide +kernel
theorem dX13_layRelay_111 : decode cX13_layRelay 111 = .ok (.ifCond .le 20, 3) := by decide +kernel
theorem dX13_layRelay_114 : decode cX13_layRelay 114 = .ok (.aload_n 0, 1) := by decide +kernel
theorem dX13_layRelay_115 : decode cX13_layRelay 115 = .ok (.iload_n 3, 1) := by decide +kernel
theorem dX13_layRelay_116 : decode cX13_layRelay 116 = .ok (.iload_n 1, 1) := by decide +kernel
theorem dX13_layRelay_117 : decode cX13_layRelay 117 = .ok (.iload_n 2, 1) := by decide +kernel
theorem dX13_layRelay_118 : decode cX13_layRelay 118 = .ok (.iload_n 3, 1) := by decide +kernel
theorem dX13_layRelay_119 : decode cX13_layRelay 119 = .ok (.iconst 1, 1) := by decide +kernel
theorem dX13_layRelay_120 : decode cX13_layRelay 120 = .ok (.isub, 1) := by decide +kernel
theorem dX13_layRelay_121 : decode cX13_layRelay 121 = .ok (.invokevirtual 422, 3) := by decide +kernel
theorem dX13_layRelay_124 : decode cX13_layRelay 124 = .ok (.ifCond .eq 7, 3) := by decide +kernel
theorem dX13_layRelay_127 : decode cX13_layRelay 127 = .ok (.iconst 1, 1) := by decide +kernel
theorem dX13_layRelay_128 : decode cX13_layRelay 128 = .ok (.goto 4, 3) := by decide +kernel
theorem dX13_layRelay_131 : decode cX13_layRelay 131 = .ok (.iconst 0, 1) := by decide +kernel
theorem dX13_layRelay_132 : decode cX13_layRelay 132 = .ok (.istore 4, 2) := by decide +kernel
theorem dX13_layRelay_134 : decode cX13_layRelay 134 = .ok (.goto (-87), 3) := by decide +kernel
theorem dX13_layRelay_137 : decode cX13_layRelay 137 = .ok (.iinc 3 1, 3) := by decide +kernel
theorem dX13_layRelay_140 : decode cX13_layRelay 140 = .ok (.goto (-131), 3) := by decide +kernel
theorem dX13_layRelay_143 : decode cX13_layRelay 143 = .ok (.return_, 1) := by decide +kernel
theorem BX13_layRelay_0 {d bc bs : Nat} {h : aH} {n : Nat} {Q : aQ} {ar0 : Nat} {x1 x2 : Int} {l3 l4 l5 l6 : Option aV} {f1 : List aV} (h2 : h ar0 = cO 13 f1) (m3 : 29 < f1.length) (k : Rn d bc bs mX13_layRelay 7 [some (vR (some ar0)), some (vI x1), some (vI x2), l3, l4, l5, l6] [] (up h ar0 (cO 13 (f1.set 29 (vI 1000000)))) n Q) : Rn d (bc) (bs) mX13_layRelay 0 [some (vR (some ar0)), some (vI x1), some (vI x2), l3, l4, l5, l6] [] h n Q := by
  refine Rn_aload_n dX13_layRelay_0 rfl rfl rfl ?_
  refine Rn_ldcw dX13_layRelay_1 wd_1894 rfl ?_
  refine Rn_putfield (ci := 13) (k := 29) dX13_layRelay_4 rfl in_13 tyX13_ok nmX13 (Nat.le_of_ble_eq_true rfl) wd_1381 rfl (Or.inl rfl) trivial m3 h2 ?_
  exact k
theorem BX13_layRelay_7 {d bc bs : Nat} {h : aH} {n : Nat} {Q : aQ} {r0 : Option Nat} {x1 x2 : Int} {l3 l4 l5 l6 : Option aV} (k : Rn d bc bs mX13_layRelay 9 [some (vR r0), some (vI x1), some (vI x2), some (vI 0), l4, l5, l6] [] h n Q) : Rn d (bc) (bs) mX13_layRelay 7 [some (vR r0), some (vI x1), some (vI x2), l3, l4, l5, l6] [] h n Q := by
  refine Rn_iconst dX13_layRelay_7 rfl ?_
  refine Rn_istore_n dX13_layRelay_8 rfl (Nat.le_of_ble_eq_true rfl) rfl rfl ?_
  exact k
theorem BX13_layRelay_9 {d bc bs : Nat} {h : aH} {n : Nat} {Q : aQ} {r0 : Option Nat} {x1 x2 x3 : Int} {l4 l5 l6 : Option aV} (kt : 5 ≤ x3 → Rn d bc bs mX13_layRelay 143 [some (vR r0), some (vI x1), some (vI x2), some (vI x3), l4, l5, l6] [] h n Q) (kf : x3 < 5 → Rn d bc bs mX13_layRelay 14 [some (vR r0), some (vI x1), some (vI x2), some (vI x3), l4, l5, l6] [] h n Q) : Rn d (bc) (bs) mX13_layRelay 9 [some (vR r0), some (vI x1), some (vI x2), some (vI x3), l4, l5, l6] [] h n Q := by
  refine Rn_iload_n dX13_layRelay_9 rfl rfl ?_
  refine Rn_iconst dX13_layRelay_10 rfl ?_
  refine Rn_icmpge (tgt := 143) dX13_layRelay_11 rfl ?_ ?_
  · exact kt
  · exact kf
theorem BX13_layRelay_14 {d bc bs : Nat} {h : aH} {n : Nat} {Q : aQ} {r0 : Option Nat} {x1 x2 x3 : Int} {l4 l5 l6 : Option aV} (kt : x3 ≤ 0 → Rn d bc bs mX13_layRelay 25 [some (vR r0), some (vI x1), some (vI x2), some (vI x3), l4, l5, l6] [] h n Q) (kf : 0 < x3 → Rn d bc bs mX13_layRelay 18 [some (vR r0), some (vI x1), some (vI x2), some (vI x3), l4, l5, l6] [] h n Q) : Rn d (bc) (bs) mX13_layRelay 14 [some (vR r0), some (vI x1), some (vI x2), some (vI x3), l4, l5, l6] [] h n Q := by
  refine Rn_iload_n dX13_layRelay_14 rfl rfl ?_
  refine Rn_ifle (tgt := 25) dX13_layRelay_15 rfl ?_ ?_
  · exact kt
  · exact kf
theorem BX13_layRelay_18 {d bc bs : Nat} {h : aH} {n : Nat} {Q : aQ} {ar0 at3 : Nat} {x1 x2 x3 : Int} {l4 l5 l6 : Option aV} {f1 : List aV} {w5 : List Int} (h2 : h ar0 = cO 13 f1) (g4 : f1[26]? = some (vR (some at3))) (h6 : h at3 = cI w5) (j7 : (0 : Int) < w5.length) (z8 : at3 ≠ 0) (k : Rn d bc bs mX13_layRelay 25 [some (vR (some ar0)), some (vI x1), some (vI x2), some (vI x3), l4, l5, l6] [] (up h at3 (cI (w5.set (0 : Int).toNat (-1)))) n Q) : Rn d (bc) (bs) mX13_layRelay 18 [some (vR (some ar0)), some (vI x1), some (vI x2), some (vI x3), l4, l5, l6] [] h n Q := by
  refine Rn_aload_n dX13_layRelay_18 rfl rfl rfl ?_
  refine Rn_getfield (ci := 13) (k := 26) dX13_layRelay_19 rfl in_13 (Nat.le_of_ble_eq_true rfl) wd_1378 rfl h2 g4 ?_
  refine Rn_iconst dX13_layRelay_22 rfl ?_
  refine Rn_iconst dX13_layRelay_23 rfl ?_
  refine Rn_iastore dX13_layRelay_24 z8 h6 (by decide) j7 ?_
  exact k
theorem BX13_layRelay_25 {d bc bs : Nat} {h : aH} {n : Nat} {Q : aQ} {r0 : Option Nat} {x1 x2 x3 : Int} {l4 l5 l6 : Option aV} (kt : x3 = 0 → Rn d bc bs mX13_layRelay 40 [some (vR r0), some (vI x1), some (vI x2), some (vI x3), l4, l5, l6] [] h n Q) (kf : x3 ≠ 0 → Rn d bc bs mX13_layRelay 29 [some (vR r0), some (vI x1), some (vI x2), some (vI x3), l4, l5, l6] [] h n Q) : Rn d (bc) (bs) mX13_layRelay 25 [some (vR r0), some (vI x1), some (vI x2), some (vI x3), l4, l5, l6] [] h n Q := by
  refine Rn_iload_n dX13_layRelay_25 rfl rfl ?_
  refine Rn_ifeq (tgt := 40) dX13_layRelay_26 rfl ?_ ?_
  · exact kt
  · exact kf
theorem BX13_layRelay_29 {d bc bs : Nat} {h : aH} {n : Nat} {Q : aQ} {ar0 : Nat} {x1 x2 x3 : Int} {l4 l5 l6 : Option aV} {f1 : List aV} (h2 : h ar0 = cO 13 f1) (k : Rn d 0 0 mX13_isNextRow 0 [some (vR (some ar0)), some (vI x3), some (vI x1), some (vI x2), some (vI 0), none] [] h n (fun v h1 n1 => Rn (d + 1) bc bs mX13_layRelay 37 [some (vR (some ar0)), some (vI x1), some (vI x2), some (vI x3), l4, l5, l6] (v.toList ++ []) h1 n1 Q)) : Rn (d + 1) (bc) (bs) mX13_layRelay 29 [some (vR (some ar0)), some (vI x1), some (vI x2), some (vI x3), l4, l5, l6] [] h n Q := by
  refine Rn_aload_n dX13_layRelay_29 rfl rfl rfl ?_
  refine Rn_iload_n dX13_layRelay_30 rfl rfl ?_
  refine Rn_iload_n dX13_layRelay_31 rfl rfl ?_
  refine Rn_iload_n dX13_layRelay_32 rfl rfl ?_
  refine Rn_iconst dX13_layRelay_33 rfl ?_
  exact Rn_callV (ci := 13) (avs := [vI x3, vI x1, vI x2, vI 0]) (st := []) (bc1 := 0) (bs1 := 0) (bc2 := bc) (bs2 := bs) fx_X13_isNextRow dX13_layRelay_34 wd_1895 wd_1897 wd_109 rfl h2 rfl (Nat.le_of_ble_eq_true rfl) (Nat.le_of_ble_eq_true rfl) (by omega) (by omega) (ls1 := [some (vR (some ar0)), some (vI x3), some (vI x1), some (vI x2), some (vI 0), none]) rfl k
theorem BX13_layRelay_37 {d bc bs : Nat} {h : aH} {n : Nat} {Q : aQ} {r0 : Option Nat} {x1 x2 x3 s0 : Int} {l4 l5 l6 : Option aV} (kt : s0 = 0 → Rn d bc bs mX13_layRelay 44 [some (vR r0), some (vI x1), some (vI x2), some (vI x3), l4, l5, l6] [] h n Q) (kf : s0 ≠ 0 → Rn d bc bs mX13_layRelay 40 [some (vR r0), some (vI x1), some (vI x2), some (vI x3), l4, l5, l6] [] h n Q) : Rn d (bc) (bs) mX13_layRelay 37 [some (vR r0), some (vI x1), some (vI x2), some (vI x3), l4, l5, l6] [vI s0] h n Q := by
  refine Rn_ifeq (tgt := 44) dX13_layRelay_37 rfl ?_ ?_
  · exact kt
  · exact kf
theorem BX13_layRelay_40 {d bc bs : Nat} {h : aH} {n : Nat} {Q : aQ} {r0 : Option Nat} {x1 x2 x3 : Int} {l4 l5 l6 : Option aV} (k : Rn d bc bs mX13_layRelay 47 [some (vR r0), some (vI x1), some (vI x2), some (vI x3), some (vI 1), l5, l6] [] h n Q) : Rn d (bc) (bs) mX13_layRelay 40 [some (vR r0), some (vI x1), some (vI x2), some (vI x3), l4, l5, l6] [] h n Q := by
  refine Rn_iconst dX13_layRelay_40 rfl ?_
  refine Rn_goto (tgt := 45) dX13_layRelay_41 rfl ?_
  refine Rn_istore dX13_layRelay_45 (Nat.le_of_ble_eq_true rfl) rfl rfl ?_
  exact k
theorem BX13_layRelay_44 {d bc bs : Nat} {h : aH} {n : Nat} {Q : aQ} {r0 : Option Nat} {x1 x2 x3 : Int} {l4 l5 l6 : Option aV} (k : Rn d bc bs mX13_layRelay 47 [some (vR r0), some (vI x1), some (vI x2), some (vI x3), some (vI 0), l5, l6] [] h n Q) : Rn d (bc) (bs) mX13_layRelay 44 [some (vR r0), some (vI x1), some (vI x2), some (vI x3), l4, l5, l6] [] h n Q := by
  refine Rn_iconst dX13_layRelay_44 rfl ?_
  refine Rn_istore dX13_layRelay_45 (Nat.le_of_ble_eq_true rfl) rfl rfl ?_
  exact k
theorem BX13_layRelay_47 {d bc bs : Nat} {h : aH} {n : Nat} {Q : aQ} {r0 : Option Nat} {x1 x2 x3 x4 : Int} {l5 l6 : Option aV} (kt : x4 = 0 → Rn d bc bs mX13_layRelay 137 [some (vR r0), some (vI x1), some (vI x2), some (vI x3), some (vI x4), l5, l6] [] h n Q) (kf : x4 ≠ 0 → Rn d bc bs mX13_layRelay 52 [some (vR r0), some (vI x1), some (vI x2), some (vI x3), some (vI x4), l5, l6] [] h n Q) : Rn d (bc) (bs) mX13_layRelay 47 [some (vR r0), some (vI x1), some (vI x2), some (vI x3), some (vI x4), l5, l6] [] h n Q := by
  refine Rn_iload dX13_layRelay_47 rfl ?_
  refine Rn_ifeq (tgt := 137) dX13_layRelay_49 rfl ?_ ?_
  · exact kt
  · exact kf
theorem BX13_layRelay_52 {d bc bs : Nat} {h : aH} {n : Nat} {Q : aQ} {ar0 : Nat} {x1 x2 x3 x4 : Int} {l5 l6 : Option aV} {f1 : List aV} (h2 : h ar0 = cO 13 f1) (k : Rn d 0 0 mX13_whenBy 0 [some (vR (some ar0)), some (vI x1), some (vI x2), some (vI x3), none, none, none, none] [] h n (fun v h1 n1 => Rn (d + 1) bc bs mX13_layRelay 59 [some (vR (some ar0)), some (vI x1), some (vI x2), some (vI x3), some (vI x4), l5, l6] (v.toList ++ []) h1 n1 Q)) : Rn (d + 1) (bc) (bs) mX13_layRelay 52 [some (vR (some ar0)), some (vI x1), some (vI x2), some (vI x3), some (vI x4), l5, l6] [] h n Q := by
  refine Rn_aload_n dX13_layRelay_52 rfl rfl rfl ?_
  refine Rn_iload_n dX13_layRelay_53 rfl rfl ?_
  refine Rn_iload_n dX13_layRelay_54 rfl rfl ?_
  refine Rn_iload_n dX13_layRelay_55 rfl rfl ?_
  exact Rn_callV (ci := 13) (avs := [vI x1, vI x2, vI x3]) (st := []) (bc1 := 0) (bs1 := 0) (bc2 := bc) (bs2 := bs) fx_X13_whenBy dX13_layRelay_56 wd_1903 wd_1905 wd_111 rfl h2 rfl (Nat.le_of_ble_eq_true rfl) (Nat.le_of_ble_eq_true rfl) (by omega) (by omega) (ls1 := [some (vR (some ar0)), some (vI x1), some (vI x2), some (vI x3), none, none, none, none]) rfl k
theorem BX13_layRelay_59 {d bc bs : Nat} {h : aH} {n : Nat} {Q : aQ} {ar0 : Nat} {x1 x2 x3 x4 s0 v3 : Int} {l5 l6 : Option aV} {f1 : List aV} (h2 : h ar0 = cO 13 f1) (g4 : f1[29]? = some (vI v3)) (kt : v3 ≤ s0 → Rn d bc bs mX13_layRelay 110 [some (vR (some ar0)), some (vI x1), some (vI x2), some (vI x3), some (vI x4), some (vI s0), l6] [] h n Q) (kf : s0 < v3 → Rn d bc bs mX13_layRelay 70 [some (vR (some ar0)), some (vI x1), some (vI x2), some (vI x3), some (vI x4), some (vI s0), l6] [] h n Q) : Rn d (bc) (bs) mX13_layRelay 59 [some (vR (some ar0)), some (vI x1), some (vI x2), some (vI x3), some (vI x4), l5, l6] [vI s0] h n Q := by
  refine Rn_istore dX13_layRelay_59 (Nat.le_of_ble_eq_true rfl) rfl rfl ?_
  refine Rn_iload dX13_layRelay_61 rfl ?_
  refine Rn_aload_n dX13_layRelay_63 rfl rfl rfl ?_
  refine Rn_getfield (ci := 13) (k := 29) dX13_layRelay_64 rfl in_13 (Nat.le_of_ble_eq_true rfl) wd_1381 rfl h2 g4 ?_
  refine Rn_icmpge (tgt := 110) dX13_layRelay_67 rfl ?_ ?_
  · exact kt
  · exact kf
theorem BX13_layRelay_70 {d bc bs : Nat} {h : aH} {n : Nat} {Q : aQ} {ar0 : Nat} {x1 x2 x3 x4 x5 : Int} {l6 : Option aV} {f1 : List aV} (h2 : h ar0 = cO 13 f1) (m3 : 29 < f1.length) (k : Rn d bc bs mX13_layRelay 76 [some (vR (some ar0)), some (vI x1), some (vI x2), some (vI x3), some (vI x4), some (vI x5), l6] [] (up h ar0 (cO 13 (f1.set 29 (vI x5)))) n Q) : Rn d (bc) (bs) mX13_layRelay 70 [some (vR (some ar0)), some (vI x1), some (vI x2), some (vI x3), some (vI x4), some (vI x5), l6] [] h n Q := by
  refine Rn_aload_n dX13_layRelay_70 rfl rfl rfl ?_
  refine Rn_iload dX13_layRelay_71 rfl ?_
  refine Rn_putfield (ci := 13) (k := 29) dX13_layRelay_73 rfl in_13 tyX13_ok nmX13 (Nat.le_of_ble_eq_true rfl) wd_1381 rfl (Or.inl rfl) trivial m3 h2 ?_
  exact k
theorem BX13_layRelay_76 {d bc bs : Nat} {h : aH} {n : Nat} {Q : aQ} {ar0 : Nat} {x1 x2 x3 x4 x5 : Int} {l6 : Option aV} {f1 : List aV} (h2 : h ar0 = cO 13 f1) (m3 : 28 < f1.length) (k : Rn d bc bs mX13_layRelay 81 [some (vR (some ar0)), some (vI x1), some (vI x2), some (vI x3), some (vI x4), some (vI x5), l6] [] (up h ar0 (cO 13 (f1.set 28 (vI x3)))) n Q) : Rn d (bc) (bs) mX13_layRelay 76 [some (vR (some ar0)), some (vI x1), some (vI x2), some (vI x3), some (vI x4), some (vI x5), l6] [] h n Q := by
  refine Rn_aload_n dX13_layRelay_76 rfl rfl rfl ?_
  refine Rn_iload_n dX13_layRelay_77 rfl rfl ?_
  refine Rn_putfield (ci := 13) (k := 28) dX13_layRelay_78 rfl in_13 tyX13_ok nmX13 (Nat.le_of_ble_eq_true rfl) wd_1380 rfl (Or.inl rfl) trivial m3 h2 ?_
  exact k
theorem BX13_layRelay_81 {d bc bs : Nat} {h : aH} {n : Nat} {Q : aQ} {r0 : Option Nat} {x1 x2 x3 x4 x5 : Int} {l6 : Option aV} (k : Rn d bc bs mX13_layRelay 84 [some (vR r0), some (vI x1), some (vI x2), some (vI x3), some (vI x4), some (vI x5), some (vI 0)] [] h n Q) : Rn d (bc) (bs) mX13_layRelay 81 [some (vR r0), some (vI x1), some (vI x2), some (vI x3), some (vI x4), some (vI x5), l6] [] h n Q := by
  refine Rn_iconst dX13_layRelay_81 rfl ?_
  refine Rn_istore dX13_layRelay_82 (Nat.le_of_ble_eq_true rfl) rfl rfl ?_
  exact k
theorem BX13_layRelay_84 {d bc bs : Nat} {h : aH} {n : Nat} {Q : aQ} {r0 : Option Nat} {x1 x2 x3 x4 x5 x6 : Int} (kt : x3 ≤ x6 → Rn d bc bs mX13_layRelay 110 [some (vR r0), some (vI x1), some (vI x2), some (vI x3), some (vI x4), some (vI x5), some (vI x6)] [] h n Q) (kf : x6 < x3 → Rn d bc bs mX13_layRelay 90 [some (vR r0), some (vI x1), some (vI x2), some (vI x3), some (vI x4), some (vI x5), some (vI x6)] [] h n Q) : Rn d (bc) (bs) mX13_layRelay 84 [some (vR r0), some (vI x1), some (vI x2), some (vI x3), some (vI x4), some (vI x5), some (vI x6)] [] h n Q := by
  refine Rn_iload dX13_layRelay_84 rfl ?_
  refine Rn_iload_n dX13_layRelay_86 rfl rfl ?_
  refine Rn_icmpge (tgt := 110) dX13_layRelay_87 rfl ?_ ?_
  · exact kt
  · exact kf
theorem BX13_layRelay_90 {d bc bs : Nat} {h : aH} {n : Nat} {Q : aQ} {ar0 at3 at5 : Nat} {x1 x2 x3 x4 x5 x6 v9 : Int} {f1 : List aV} {w7 w12 : List Int} (h2 : h ar0 = cO 13 f1) (g4 : f1[27]? = some (vR (some at3))) (g6 : f1[26]? = some (vR (some at5))) (h8 : h at5 = cI w7) (i10 : 0 ≤ x6) (g11 : w7[(x6 : Int).toNat]? = some v9) (h13 : h at3 = cI w12) (j14 : x6 < w12.length) (z15 : at3 ≠ 0) (k : Rn d bc bs mX13_layRelay 104 [some (vR (some ar0)), some (vI x1), some (vI x2), some (vI x3), some (vI x4), some (vI x5), some (vI x6)] [] (up h at3 (cI (w12.set (x6 : Int).toNat v9))) n Q) : Rn d (bc) (bs) mX13_layRelay 90 [some (vR (some ar0)), some (vI x1), some (vI x2), some (vI x3), some (vI x4), some (vI x5), some (vI x6)] [] h n Q := by
  refine Rn_aload_n dX13_layRelay_90 rfl rfl rfl ?_
  refine Rn_getfield (ci := 13) (k := 27) dX13_layRelay_91 rfl in_13 (Nat.le_of_ble_eq_true rfl) wd_1379 rfl h2 g4 ?_
  refine Rn_iload dX13_layRelay_94 rfl ?_
  refine Rn_aload_n dX13_layRelay_96 rfl rfl rfl ?_
  refine Rn_getfield (ci := 13) (k := 26) dX13_layRelay_97 rfl in_13 (Nat.le_of_ble_eq_true rfl) wd_1378 rfl h2 g6 ?_
  refine Rn_iload dX13_layRelay_100 rfl ?_
  refine Rn_iaload dX13_layRelay_102 h8 i10 g11 ?_
  refine Rn_iastore dX13_layRelay_103 z15 h13 i10 j14 ?_
  exact k
theorem BX13_layRelay_104 {d bc bs : Nat} {h : aH} {n : Nat} {Q : aQ} {r0 : Option Nat} {x1 x2 x3 x4 x5 x6 : Int} (b1 : -2147483648 ≤ x6 + 1 ∧ x6 + 1 < 2147483648) (k : Rn d bc bs mX13_layRelay 84 [some (vR r0), some (vI x1), some (vI x2), some (vI x3), some (vI x4), some (vI x5), some (vI (x6 + 1))] [] h n Q) : Rn d (bc) (bs) mX13_layRelay 104 [some (vR r0), some (vI x1), some (vI x2), some (vI x3), some (vI x4), some (vI x5), some (vI x6)] [] h n Q := by
  refine Rn_iinc dX13_layRelay_104 rfl (Nat.le_of_ble_eq_true rfl) rfl rfl rfl ?_
  rw [w32_id b1.1 b1.2]
  refine Rn_goto (tgt := 84) dX13_layRelay_107 rfl ?_
  exact k
theorem BX13_layRelay_110 {d bc bs : Nat} {h : aH} {n : Nat} {Q : aQ} {r0 : Option Nat} {x1 x2 x3 x4 x5 : Int} {l6 : Option aV} (kt : x3 ≤ 0 → Rn d bc bs mX13_layRelay 131 [some (vR r0), some (vI x1), some (vI x2), some (vI x3), some (vI x4), some (vI x5), l6] [] h n Q) (kf : 0 < x3 → Rn d bc bs mX13_layRelay 114 [some (vR r0), some (vI x1), some (vI x2), some (vI x3), some (vI x4), some (vI x5), l6] [] h n Q) : Rn d (bc) (bs) mX13_layRelay 110 [some (vR r0), some (vI x1), some (vI x2), some (vI x3), some (vI x4), some (vI x5), l6] [] h n Q := by
  refine Rn_iload_n dX13_layRelay_110 rfl rfl ?_
  refine Rn_ifle (tgt := 131) dX13_layRelay_111 rfl ?_ ?_
  · exact kt
  · exact kf
theorem BX13_layRelay_114 {d bc bs : Nat} {h : aH} {n : Nat} {Q : aQ} {ar0 : Nat} {x1 x2 x3 x4 x5 : Int} {l6 : Option aV} {f2 : List aV} (b1 : -2147483648 ≤ x3 - 1 ∧ x3 - 1 < 2147483648) (h3 : h ar0 = cO 13 f2) (k : Rn d 0 0 mX13_isNextRow 0 [some (vR (some ar0)), some (vI x3), some (vI x1), some (vI x2), some (vI (x3 - 1)), none] [] h n (fun v h1 n1 => Rn (d + 1) bc bs mX13_layRelay 124 [some (vR (some ar0)), some (vI x1), some (vI x2), some (vI x3), some (vI x4), some (vI x5), l6] (v.toList ++ []) h1 n1 Q)) : Rn (d + 1) (bc) (bs) mX13_layRelay 114 [some (vR (some ar0)), some (vI x1), some (vI x2), some (vI x3), some (vI x4), some (vI x5), l6] [] h n Q := by
  refine Rn_aload_n dX13_layRelay_114 rfl rfl rfl ?_
  refine Rn_iload_n dX13_layRelay_115 rfl rfl ?_
  refine Rn_iload_n dX13_layRelay_116 rfl rfl ?_
  refine Rn_iload_n dX13_layRelay_117 rfl rfl ?_
  refine Rn_iload_n dX13_layRelay_118 rfl rfl ?_
  refine Rn_iconst dX13_layRelay_119 rfl ?_
  refine Rn_isub dX13_layRelay_120 ?_
  rw [w32_id b1.1 b1.2]
  exact Rn_callV (ci := 13) (avs := [vI x3, vI x1, vI x2, vI (x3 - 1)]) (st := []) (bc1 := 0) (bs1 := 0) (bc2 := bc) (bs2 := bs) fx_X13_isNextRow dX13_layRelay_121 wd_1895 wd_1897 wd_109 rfl h3 rfl (Nat.le_of_ble_eq_true rfl) (Nat.le_of_ble_eq_true rfl) (by omega) (by omega) (ls1 := [some (vR (some ar0)), some (vI x3), some (vI x1), some (vI x2), some (vI (x3 - 1)), none]) rfl k
theorem BX13_layRelay_124 {d bc bs : Nat} {h : aH} {n : Nat} {Q : aQ} {r0 : Option Nat} {x1 x2 x3 x4 x5 s0 : Int} {l6 : Option aV} (kt : s0 = 0 → Rn d bc bs mX13_layRelay 131 [some (vR r0), some (vI x1), some (vI x2), some (vI x3), some (vI x4), some (vI x5), l6] [] h n Q) (kf : s0 ≠ 0 → Rn d bc bs mX13_layRelay 127 [some (vR r0), some (vI x1), some (vI x2), some (vI x3), some (vI x4), some (vI x5), l6] [] h n Q) : Rn d (bc) (bs) mX13_layRelay 124 [some (vR r0), some (vI x1), some (vI x2), some (vI x3), some (vI x4), some (vI x5), l6] [vI s0] h n Q := by
  refine Rn_ifeq (tgt := 131) dX13_layRelay_124 rfl ?_ ?_
  · exact kt
  · exact kf
theorem BX13_layRelay_127 {d bc bs : Nat} {h : aH} {n : Nat} {Q : aQ} {r0 : Option Nat} {x1 x2 x3 x4 x5 : Int} {l6 : Option aV} (k : Rn d bc bs mX13_layRelay 47 [some (vR r0), some (vI x1), some (vI x2), some (vI x3), some (vI 1), some (vI x5), l6] [] h n Q) : Rn d (bc) (bs) mX13_layRelay 127 [some (vR r0), some (vI x1), some (vI x2), some (vI x3), some (vI x4), some (vI x5), l6] [] h n Q := by
  refine Rn_iconst dX13_layRelay_127 rfl ?_
  refine Rn_goto (tgt := 132) dX13_layRelay_128 rfl ?_
  refine Rn_istore dX13_layRelay_132 (Nat.le_of_ble_eq_true rfl) rfl rfl ?_
  refine Rn_goto (tgt := 47) dX13_layRelay_134 rfl ?_
  exact k
theorem BX13_layRelay_131 {d bc bs : Nat} {h : aH} {n : Nat} {Q : aQ} {r0 : Option Nat} {x1 x2 x3 x4 x5 : Int} {l6 : Option aV} (k : Rn d bc bs mX13_layRelay 47 [some (vR r0), some (vI x1), some (vI x2), some (vI x3), some (vI 0), some (vI x5), l6] [] h n Q) : Rn d (bc) (bs) mX13_layRelay 131 [some (vR r0), some (vI x1), some (vI x2), some (vI x3), some (vI x4), some (vI x5), l6] [] h n Q := by
  refine Rn_iconst dX13_layRelay_131 rfl ?_
  refine Rn_istore dX13_layRelay_132 (Nat.le_of_ble_eq_true rfl) rfl rfl ?_
  refine Rn_goto (tgt := 47) dX13_layRelay_134 rfl ?_
  exact k
theorem BX13_layRelay_137 {d bc bs : Nat} {h : aH} {n : Nat} {Q : aQ} {r0 : Option Nat} {x1 x2 x3 x4 : Int} {l5 l6 : Option aV} (b1 : -2147483648 ≤ x3 + 1 ∧ x3 + 1 < 2147483648) (k : Rn d bc bs mX13_layRelay 9 [some (vR r0), some (vI x1), some (vI x2), some (vI (x3 + 1)), some (vI x4), l5, l6] [] h n Q) : Rn d (bc) (bs) mX13_layRelay 137 [some (vR r0), some (vI x1), some (vI x2), some (vI x3), some (vI x4), l5, l6] [] h n Q := by
  refine Rn_iinc dX13_layRelay_137 rfl (Nat.le_of_ble_eq_true rfl) rfl rfl rfl ?_
  rw [w32_id b1.1 b1.2]
  refine Rn_goto (tgt := 9) dX13_layRelay_140 rfl ?_
  exact k
theorem BX13_layRelay_143 {d bc bs : Nat} {h : aH} {n : Nat} {Q : aQ} {r0 : Option Nat} {x1 x2 x3 : Int} {l4 l5 l6 : Option aV} (k : Q none h n) : Rn d (bc) (bs) mX13_layRelay 143 [some (vR r0), some (vI x1), some (vI x2), some (vI x3), l4, l5, l6] [] h n Q := by
  exact Rn_return rfl dX13_layRelay_143 k
theorem dX13_relay_0 : decode cX13_relay 0 = .ok (.aload_n 0, 1) := by decide +kernel
theorem dX13_relay_1 : decode cX13_relay 1 = .ok (.iload_n 1, 1) := by decide +kernel
theorem dX13_relay_2 : decode cX13_relay 2 = .ok (.invokevirtual 343, 3) := by decide +kernel
theorem dX13_relay_5 : decode cX13_relay 5 = .ok (.ifCond .eq 16, 3) := by decide +kernel
theorem dX13_relay_8 : decode cX13_relay 8 = .ok (.aload_n 0, 1) := by decide +kernel
theorem dX13_relay_9 : decode cX13_relay 9 = .ok (.iload_n 2, 1) := by decide +kernel
theorem dX13_relay_10 : decode cX13_relay 10 = .ok (.invokevirtual 343, 3) := by decide +kernel
theorem dX13_relay_13 : decode cX13_relay 13 = .ok (.ifCond .eq 8, 3) := by decide +kernel
theorem dX13_relay_16 : decode cX13_relay 16 = .ok (.iload_n 1, 1) := by decide +kernel
theorem dX13_relay_17 : decode cX13_relay 17 = .ok (.iload_n 2, 1) := by decide +kernel
theorem dX13_relay_18 : decode cX13_relay 18 = .ok (.if_icmp .ne 6, 3) := by decide +kernel
theorem dX13_relay_21 : decode cX13_relay 21 = .ok (.bipush (-2), 2) := by decide +kernel
theorem dX13_relay_23 : decode cX13_relay 23 = .ok (.ireturn, 1) := by decide +kernel
theorem dX13_relay_24 : decode cX13_relay 24 = .ok (.aload_n 0, 1) := by decide +kernel
theorem dX13_relay_25 : decode cX13_relay 25 = .ok (.iload_n 1, 1) := by decide +kernel
theorem dX13_relay_26 : decode cX13_relay 26 = .ok (.iload_n 2, 1) := by decide +kernel
theorem dX13_relay_27 : decode cX13_relay 27 = .ok (.invokevirtual 432, 3) := by decide +kernel
theorem dX13_relay_30 : decode cX13_relay 30 = .ok (.aload_n 0, 1) := by decide +kernel
theorem dX13_relay_31 : decode cX13_relay 31 = .ok (.getfield 419, 3) := by decide +kernel
theorem dX13_relay_34 : decode cX13_relay 34 = .ok (.bipush 60, 2) := by decide +kernel
theorem dX13_relay_36 : decode cX13_relay 36 = .ok (.if_icmp .gt 17, 3) := by decide +kernel
theorem dX13_relay_39 : decode cX13_relay 39 = .ok (.iload_n 3, 1) := by decide +kernel
theorem dX13_relay_40 : decode cX13_relay 40 = .ok (.iconst (-1), 1) := by decide +kernel
theorem dX13_relay_41 : decode cX13_relay 41 = .ok (.aload_n 0, 1) := by decide +kernel
theorem dX13_relay_42 : decode cX13_relay 42 = .ok (.getfield 429, 3) := by decide +kernel
theorem dX13_relay_45 : decode cX13_relay 45 = .ok (.iconst 1, 1) := by decide +kernel
theorem dX13_relay_46 : decode cX13_relay 46 = .ok (.isub, 1) := by decide +kernel
theorem dX13_relay_47 : decode cX13_relay 47 = .ok (.invokestatic 72, 3) := by decide +kernel
theorem dX13_relay_50 : decode cX13_relay 50 = .ok (.ifCond .ne 6, 3) := by decide +kernel
theorem dX13_relay_53 : decode cX13_relay 53 = .ok (.bipush (-2), 2) := by decide +kernel
theorem dX13_relay_55 : decode cX13_relay 55 = .ok (.ireturn, 1) := by decide +kernel
theorem dX13_relay_56 : decode cX13_relay 56 = .ok (.iload_n 3, 1) := by decide +kernel
theorem dX13_relay_57 : decode cX13_relay 57 = .ok (.iconst (-1), 1) := by decide +kernel
theorem dX13_relay_58 : decode cX13_relay 58 = .ok (.if_icmp .ne 10, 3) := by decide +kernel
theorem dX13_relay_61 : decode cX13_relay 61 = .ok (.aload_n 0, 1) := by decide +kernel
theorem dX13_relay_62 : decode cX13_relay 62 = .ok (.getfield 419, 3) := by decide +kernel
theorem dX13_relay_65 : decode cX13_relay 65 = .ok (.goto 9, 3) := by decide +kernel
theorem dX13_relay_68 : decode cX13_relay 68 = .ok (.aload_n 0, 1) := by decide +kernel
theorem dX13_relay_69 : decode cX13_relay 69 = .ok (.getfield 53, 3) := by decide +kernel
theorem dX13_relay_72 : decode cX13_relay 72 = .ok (.iload_n 3, 1) := by decide +kernel
theorem dX13_relay_73 : decode cX13_relay 73 = .ok (.iaload, 1) := by decide +kernel
theorem dX13_relay_74 : decode cX13_relay 74 = .ok (.ireturn, 1) := by decide +kernel
theorem BX13_relay_0 {d bc bs : Nat} {h : aH} {n : Nat} {Q : aQ} {ar0 : Nat} {x1 x2 x3 : Int} {f1 : List aV} (h2 : h ar0 = cO 13 f1) (k : Rn d 0 0 mX13_isPerson 0 [some (vR (some ar0)), some (vI x1)] [] h n (fun v h1 n1 => Rn (d + 1) bc bs mX13_relay 5 [some (vR (some ar0)), some (vI x1), some (vI x2), some (vI x3)] (v.toList ++ []) h1 n1 Q)) : Rn (d + 1) (bc) (bs) mX13_relay 0 [some (vR (some ar0)), some (vI x1), some (vI x2), some (vI x3)] [] h n Q := by
  refine Rn_aload_n dX13_relay_0 rfl rfl rfl ?_
  refine Rn_iload_n dX13_relay_1 rfl rfl ?_
  exact Rn_callV (ci := 13) (avs := [vI x1]) (st := []) (bc1 := 0) (bs1 := 0) (bc2 := bc) (bs2 := bs) fx_X13_isPerson dX13_relay_2 wd_1646 wd_1648 wd_74 rfl h2 rfl (Nat.le_of_ble_eq_true rfl) (Nat.le_of_ble_eq_true rfl) (by omega) (by omega) (ls1 := [some (vR (some ar0)), some (vI x1)]) rfl k
theorem BX13_relay_5 {d bc bs : Nat} {h : aH} {n : Nat} {Q : aQ} {r0 : Option Nat} {x1 x2 x3 s0 : Int} (kt : s0 = 0 → Rn d bc bs mX13_relay 21 [some (vR r0), some (vI x1), some (vI x2), some (vI x3)] [] h n Q) (kf : s0 ≠ 0 → Rn d bc bs mX13_relay 8 [some (vR r0), some (vI x1), some (vI x2), some (vI x3)] [] h n Q) : Rn d (bc) (bs) mX13_relay 5 [some (vR r0), some (vI x1), some (vI x2), some (vI x3)] [vI s0] h n Q := by
  refine Rn_ifeq (tgt := 21) dX13_relay_5 rfl ?_ ?_
  · exact kt
  · exact kf
theorem BX13_relay_8 {d bc bs : Nat} {h : aH} {n : Nat} {Q : aQ} {ar0 : Nat} {x1 x2 x3 : Int} {f1 : List aV} (h2 : h ar0 = cO 13 f1) (k : Rn d 0 0 mX13_isPerson 0 [some (vR (some ar0)), some (vI x2)] [] h n (fun v h1 n1 => Rn (d + 1) bc bs mX13_relay 13 [some (vR (some ar0)), some (vI x1), some (vI x2), some (vI x3)] (v.toList ++ []) h1 n1 Q)) : Rn (d + 1) (bc) (bs) mX13_relay 8 [some (vR (some ar0)), some (vI x1), some (vI x2), some (vI x3)] [] h n Q := by
  refine Rn_aload_n dX13_relay_8 rfl rfl rfl ?_
  refine Rn_iload_n dX13_relay_9 rfl rfl ?_
  exact Rn_callV (ci := 13) (avs := [vI x2]) (st := []) (bc1 := 0) (bs1 := 0) (bc2 := bc) (bs2 := bs) fx_X13_isPerson dX13_relay_10 wd_1646 wd_1648 wd_74 rfl h2 rfl (Nat.le_of_ble_eq_true rfl) (Nat.le_of_ble_eq_true rfl) (by omega) (by omega) (ls1 := [some (vR (some ar0)), some (vI x2)]) rfl k
theorem BX13_relay_13 {d bc bs : Nat} {h : aH} {n : Nat} {Q : aQ} {r0 : Option Nat} {x1 x2 x3 s0 : Int} (kt : s0 = 0 → Rn d bc bs mX13_relay 21 [some (vR r0), some (vI x1), some (vI x2), some (vI x3)] [] h n Q) (kf : s0 ≠ 0 → Rn d bc bs mX13_relay 16 [some (vR r0), some (vI x1), some (vI x2), some (vI x3)] [] h n Q) : Rn d (bc) (bs) mX13_relay 13 [some (vR r0), some (vI x1), some (vI x2), some (vI x3)] [vI s0] h n Q := by
  refine Rn_ifeq (tgt := 21) dX13_relay_13 rfl ?_ ?_
  · exact kt
  · exact kf
theorem BX13_relay_16 {d bc bs : Nat} {h : aH} {n : Nat} {Q : aQ} {r0 : Option Nat} {x1 x2 x3 : Int} (kt : x1 ≠ x2 → Rn d bc bs mX13_relay 24 [some (vR r0), some (vI x1), some (vI x2), some (vI x3)] [] h n Q) (kf : x1 = x2 → Rn d bc bs mX13_relay 21 [some (vR r0), some (vI x1), some (vI x2), some (vI x3)] [] h n Q) : Rn d (bc) (bs) mX13_relay 16 [some (vR r0), some (vI x1), some (vI x2), some (vI x3)] [] h n Q := by
  refine Rn_iload_n dX13_relay_16 rfl rfl ?_
  refine Rn_iload_n dX13_relay_17 rfl rfl ?_
  refine Rn_icmpne (tgt := 24) dX13_relay_18 rfl ?_ ?_
  · exact kt
  · exact kf
theorem BX13_relay_21 {d bc bs : Nat} {h : aH} {n : Nat} {Q : aQ} {r0 : Option Nat} {x1 x2 x3 : Int} (k : Q (some (vI (-2))) h n) : Rn d (bc) (bs) mX13_relay 21 [some (vR r0), some (vI x1), some (vI x2), some (vI x3)] [] h n Q := by
  refine Rn_bipush dX13_relay_21 rfl ?_
  exact Rn_ireturn rfl dX13_relay_23 k
theorem BX13_relay_24 {d bc bs : Nat} {h : aH} {n : Nat} {Q : aQ} {ar0 : Nat} {x1 x2 x3 : Int} {f1 : List aV} (h2 : h ar0 = cO 13 f1) (k : Rn d 0 0 mX13_layRelay 0 [some (vR (some ar0)), some (vI x1), some (vI x2), none, none, none, none] [] h n (fun v h1 n1 => Rn (d + 1) bc bs mX13_relay 30 [some (vR (some ar0)), some (vI x1), some (vI x2), some (vI x3)] (v.toList ++ []) h1 n1 Q)) : Rn (d + 1) (bc) (bs) mX13_relay 24 [some (vR (some ar0)), some (vI x1), some (vI x2), some (vI x3)] [] h n Q := by
  refine Rn_aload_n dX13_relay_24 rfl rfl rfl ?_
  refine Rn_iload_n dX13_relay_25 rfl rfl ?_
  refine Rn_iload_n dX13_relay_26 rfl rfl ?_
  exact Rn_callV (ci := 13) (avs := [vI x1, vI x2]) (st := []) (bc1 := 0) (bs1 := 0) (bc2 := bc) (bs2 := bs) fx_X13_layRelay dX13_relay_27 wd_1890 wd_1892 wd_108 rfl h2 rfl (Nat.le_of_ble_eq_true rfl) (Nat.le_of_ble_eq_true rfl) (by omega) (by omega) (ls1 := [some (vR (some ar0)), some (vI x1), some (vI x2), none, none, none, none]) rfl k
theorem BX13_relay_30 {d bc bs : Nat} {h : aH} {n : Nat} {Q : aQ} {ar0 : Nat} {x1 x2 x3 v3 : Int} {f1 : List aV} (h2 : h ar0 = cO 13 f1) (g4 : f1[29]? = some (vI v3)) (kt : 60 < v3 → Rn d bc bs mX13_relay 53 [some (vR (some ar0)), some (vI x1), some (vI x2), some (vI x3)] [] h n Q) (kf : v3 ≤ 60 → Rn d bc bs mX13_relay 39 [some (vR (some ar0)), some (vI x1), some (vI x2), some (vI x3)] [] h n Q) : Rn d (bc) (bs) mX13_relay 30 [some (vR (some ar0)), some (vI x1), some (vI x2), some (vI x3)] [] h n Q := by
  refine Rn_aload_n dX13_relay_30 rfl rfl rfl ?_
  refine Rn_getfield (ci := 13) (k := 29) dX13_relay_31 rfl in_13 (Nat.le_of_ble_eq_true rfl) wd_1381 rfl h2 g4 ?_
  refine Rn_bipush dX13_relay_34 rfl ?_
  refine Rn_icmpgt (tgt := 53) dX13_relay_36 rfl ?_ ?_
  · exact kt
  · exact kf
theorem BX13_relay_39 {d bc bs : Nat} {h : aH} {n : Nat} {Q : aQ} {ar0 : Nat} {x1 x2 x3 v3 : Int} {f1 : List aV} (h2 : h ar0 = cO 13 f1) (g4 : f1[28]? = some (vI v3)) (b5 : -2147483648 ≤ v3 - 1 ∧ v3 - 1 < 2147483648) (k : Rn d 0 0 mX13_isIn 0 [some (vI x3), some (vI (-1)), some (vI (v3 - 1))] [] h n (fun v h1 n1 => Rn (d + 1) bc bs mX13_relay 50 [some (vR (some ar0)), some (vI x1), some (vI x2), some (vI x3)] (v.toList ++ []) h1 n1 Q)) : Rn (d + 1) (bc) (bs) mX13_relay 39 [some (vR (some ar0)), some (vI x1), some (vI x2), some (vI x3)] [] h n Q := by
  refine Rn_iload_n dX13_relay_39 rfl rfl ?_
  refine Rn_iconst dX13_relay_40 rfl ?_
  refine Rn_aload_n dX13_relay_41 rfl rfl rfl ?_
  refine Rn_getfield (ci := 13) (k := 28) dX13_relay_42 rfl in_13 (Nat.le_of_ble_eq_true rfl) wd_1380 rfl h2 g4 ?_
  refine Rn_iconst dX13_relay_45 rfl ?_
  refine Rn_isub dX13_relay_46 ?_
  rw [w32_id b5.1 b5.2]
  exact Rn_callS (avs := [vI x3, vI (-1), vI (v3 - 1)]) (st := []) (bc1 := 0) (bs1 := 0) (bc2 := bc) (bs2 := bs) fx_X13_isIn dX13_relay_47 (Or.inl wd_1463) wd_1464 rfl (Nat.le_of_ble_eq_true rfl) (Nat.le_of_ble_eq_true rfl) (by omega) (by omega) (ls1 := [some (vI x3), some (vI (-1)), some (vI (v3 - 1))]) rfl k
theorem BX13_relay_50 {d bc bs : Nat} {h : aH} {n : Nat} {Q : aQ} {r0 : Option Nat} {x1 x2 x3 s0 : Int} (kt : s0 ≠ 0 → Rn d bc bs mX13_relay 56 [some (vR r0), some (vI x1), some (vI x2), some (vI x3)] [] h n Q) (kf : s0 = 0 → Rn d bc bs mX13_relay 53 [some (vR r0), some (vI x1), some (vI x2), some (vI x3)] [] h n Q) : Rn d (bc) (bs) mX13_relay 50 [some (vR r0), some (vI x1), some (vI x2), some (vI x3)] [vI s0] h n Q := by
  refine Rn_ifne (tgt := 56) dX13_relay_50 rfl ?_ ?_
  · exact kt
  · exact kf
theorem BX13_relay_53 {d bc bs : Nat} {h : aH} {n : Nat} {Q : aQ} {r0 : Option Nat} {x1 x2 x3 : Int} (k : Q (some (vI (-2))) h n) : Rn d (bc) (bs) mX13_relay 53 [some (vR r0), some (vI x1), some (vI x2), some (vI x3)] [] h n Q := by
  refine Rn_bipush dX13_relay_53 rfl ?_
  exact Rn_ireturn rfl dX13_relay_55 k
theorem BX13_relay_56 {d bc bs : Nat} {h : aH} {n : Nat} {Q : aQ} {r0 : Option Nat} {x1 x2 x3 : Int} (kt : x3 ≠ (-1) → Rn d bc bs mX13_relay 68 [some (vR r0), some (vI x1), some (vI x2), some (vI x3)] [] h n Q) (kf : x3 = (-1) → Rn d bc bs mX13_relay 61 [some (vR r0), some (vI x1), some (vI x2), some (vI x3)] [] h n Q) : Rn d (bc) (bs) mX13_relay 56 [some (vR r0), some (vI x1), some (vI x2), some (vI x3)] [] h n Q := by
  refine Rn_iload_n dX13_relay_56 rfl rfl ?_
  refine Rn_iconst dX13_relay_57 rfl ?_
  refine Rn_icmpne (tgt := 68) dX13_relay_58 rfl ?_ ?_
  · exact kt
  · exact kf
theorem BX13_relay_61 {d bc bs : Nat} {h : aH} {n : Nat} {Q : aQ} {ar0 : Nat} {x1 x2 x3 v3 : Int} {f1 : List aV} (h2 : h ar0 = cO 13 f1) (g4 : f1[29]? = some (vI v3)) (k : Q (some (vI v3)) h n) : Rn d (bc) (bs) mX13_relay 61 [some (vR (some ar0)), some (vI x1), some (vI x2), some (vI x3)] [] h n Q := by
  refine Rn_aload_n dX13_relay_61 rfl rfl rfl ?_
  refine Rn_getfield (ci := 13) (k := 29) dX13_relay_62 rfl in_13 (Nat.le_of_ble_eq_true rfl) wd_1381 rfl h2 g4 ?_
  refine Rn_goto (tgt := 74) dX13_relay_65 rfl ?_
  exact Rn_ireturn rfl dX13_relay_74 k
theorem BX13_relay_68 {d bc bs : Nat} {h : aH} {n : Nat} {Q : aQ} {ar0 at3 : Nat} {x1 x2 x3 v7 : Int} {f1 : List aV} {w5 : List Int} (h2 : h ar0 = cO 13 f1) (g4 : f1[27]? = some (vR (some at3))) (h6 : h at3 = cI w5) (i8 : 0 ≤ x3) (g9 : w5[(x3 : Int).toNat]? = some v7) (k : Q (some (vI v7)) h n) : Rn d (bc) (bs) mX13_relay 68 [some (vR (some ar0)), some (vI x1), some (vI x2), some (vI x3)] [] h n Q := by
  refine Rn_aload_n dX13_relay_68 rfl rfl rfl ?_
  refine Rn_getfield (ci := 13) (k := 27) dX13_relay_69 rfl in_13 (Nat.le_of_ble_eq_true rfl) wd_1379 rfl h2 g4 ?_
  refine Rn_iload_n dX13_relay_72 rfl rfl ?_
  refine Rn_iaload dX13_relay_73 h6 i8 g9 ?_
  exact Rn_ireturn rfl dX13_relay_74 k
theorem dX13_found_0 : decode cX13_found 0 = .ok (.iload_n 1, 1) := by decide +kernel
theorem dX13_found_1 : decode cX13_found 1 = .ok (.iconst (-1), 1) := by decide +kernel
theorem dX13_found_2 : decode cX13_found 2 = .ok (.if_icmp .ne 12, 3) := by decide +kernel
theorem dX13_found_5 : decode cX13_found 5 = .ok (.aload_n 0, 1) := by decide +kernel
theorem dX13_found_6 : decode cX13_found 6 = .ok (.getfield 7, 3) := by decide +kernel
theorem dX13_found_9 : decode cX13_found 9 = .ok (.iconst 4, 1) := by decide +kernel
theorem dX13_found_10 : decode cX13_found 10 = .ok (.iconst 0, 1) := by decide +kernel
theorem dX13_found_11 : decode cX13_found 11 = .ok (.iastore, 1) := by decide +kernel
theorem dX13_found_12 : decode cX13_found 12 = .ok (.iconst 0, 1) := by decide +kernel
theorem dX13_found_13 : decode cX13_found 13 = .ok (.ireturn, 1) := by decide +kernel
theorem dX13_found_14 : decode cX13_found 14 = .ok (.iload_n 1, 1) := by decide +kernel
theorem dX13_found_15 : decode cX13_found 15 = .ok (.invokestatic 84, 3) := by decide +kernel
theorem dX13_found_18 : decode cX13_found 18 = .ok (.ifCond .eq 24, 3) := by decide +kernel
theorem dX13_found_21 : decode cX13_found 21 = .ok (.iload_n 2, 1) := by decide +kernel
theorem dX13_found_22 : decode cX13_found 22 = .ok (.iconst 1, 1) := by decide +kernel
theorem dX13_found_23 : decode cX13_found 23 = .ok (.bipush 60, 2) := by decide +kernel
theorem dX13_found_25 : decode cX13_found 25 = .ok (.invokestatic 72, 3) := by decide +kernel
theorem dX13_found_28 : decode cX13_found 28 = .ok (.ifCond .eq 14, 3) := by decide +kernel
theorem dX13_found_31 : decode cX13_found 31 = .ok (.aload_n 0, 1) := by decide +kernel
theorem dX13_found_32 : decode cX13_found 32 = .ok (.getfield 7, 3) := by decide +kernel
theorem dX13_found_35 : decode cX13_found 35 = .ok (.iconst 4, 1) := by decide +kernel
theorem dX13_found_36 : decode cX13_found 36 = .ok (.iaload, 1) := by decide +kernel
theorem dX13_found_37 : decode cX13_found 37 = .ok (.bipush 6, 2) := by decide +kernel
theorem dX13_found_39 : decode cX13_found 39 = .ok (.if_icmp .ne 6, 3) := by decide +kernel
theorem dX13_found_42 : decode cX13_found 42 = .ok (.bipush (-2), 2) := by decide +kernel
theorem dX13_found_44 : decode cX13_found 44 = .ok (.ireturn, 1) := by decide +kernel
theorem dX13_found_45 : decode cX13_found 45 = .ok (.aload_n 0, 1) := by decide +kernel
theorem dX13_found_46 : decode cX13_found 46 = .ok (.getfield 7, 3) := by decide +kernel
theorem dX13_found_49 : decode cX13_found 49 = .ok (.bipush 125, 2) := by decide +kernel
theorem dX13_found_51 : decode cX13_found 51 = .ok (.iconst 2, 1) := by decide +kernel
theorem dX13_found_52 : decode cX13_found 52 = .ok (.aload_n 0, 1) := by decide +kernel
theorem dX13_found_53 : decode cX13_found 53 = .ok (.getfield 7, 3) := by decide +kernel
theorem dX13_found_56 : decode cX13_found 56 = .ok (.iconst 4, 1) := by decide +kernel
theorem dX13_found_57 : decode cX13_found 57 = .ok (.iaload, 1) := by decide +kernel
theorem dX13_found_58 : decode cX13_found 58 = .ok (.imul, 1) := by decide +kernel
theorem dX13_found_59 : decode cX13_found 59 = .ok (.iadd, 1) := by decide +kernel
theorem dX13_found_60 : decode cX13_found 60 = .ok (.iload_n 1, 1) := by decide +kernel
theorem dX13_found_61 : decode cX13_found 61 = .ok (.iastore, 1) := by decide +kernel
theorem dX13_found_62 : decode cX13_found 62 = .ok (.aload_n 0, 1) := by decide +kernel
theorem dX13_found_63 : decode cX13_found 63 = .ok (.getfield 7, 3) := by decide +kernel
theorem dX13_found_66 : decode cX13_found 66 = .ok (.bipush 125, 2) := by decide +kernel
theorem dX13_found_68 : decode cX13_found 68 = .ok (.iconst 2, 1) := by decide +kernel
theorem dX13_found_69 : decode cX13_found 69 = .ok (.aload_n 0, 1) := by decide +kernel
theorem dX13_found_70 : decode cX13_found 70 = .ok (.getfield 7, 3) := by decide +kernel
theorem dX13_found_73 : decode cX13_found 73 = .ok (.iconst 4, 1) := by decide +kernel
theorem dX13_found_74 : decode cX13_found 74 = .ok (.iaload, 1) := by decide +kernel
theorem dX13_found_75 : decode cX13_found 75 = .ok (.imul, 1) := by decide +kernel
theorem dX13_found_76 : decode cX13_found 76 = .ok (.iadd, 1) := by decide +kernel
theorem dX13_found_77 : decode cX13_found 77 = .ok (.iconst 1, 1) := by decide +kernel
theorem dX13_found_78 : decode cX13_found 78 = .ok (.iadd, 1) := by decide +kernel
theorem dX13_found_79 : decode cX13_found 79 = .ok (.iload_n 2, 1) := by decide +kernel
theorem dX13_found_80 : decode cX13_found 80 = .ok (.iastore, 1) := by decide +kernel
theorem dX13_found_81 : decode cX13_found 81 = .ok (.aload_n 0, 1) := by decide +kernel
theorem dX13_found_82 : decode cX13_found 82 = .ok (.getfield 7, 3) := by decide +kernel
theorem dX13_found_85 : decode cX13_found 85 = .ok (.iconst 4, 1) := by decide +kernel
theorem dX13_found_86 : decode cX13_found 86 = .ok (.dup2, 1) := by decide +kernel
theorem dX13_found_87 : decode cX13_found 87 = .ok (.iaload, 1) := by decide +kernel
theorem dX13_found_88 : decode cX13_found 88 = .ok (.iconst 1, 1) := by decide +kernel
theorem dX13_found_89 : decode cX13_found 89 = .ok (.iadd, 1) := by decide +kernel
theorem dX13_found_90 : decode cX13_found 90 = .ok (.iastore, 1) := by decide +kernel
theorem dX13_found_91 : decode cX13_found 91 = .ok (.aload_n 0, 1) := by decide +kernel
theorem dX13_found_92 : decode cX13_found 92 = .ok (.getfield 7, 3) := by decide +kernel
theorem dX13_found_95 : decode cX13_found 95 = .ok (.iconst 4, 1) := by decide +kernel
theorem dX13_found_96 : decode cX13_found 96 = .ok (.iaload, 1) := by decide +kernel
theorem dX13_found_97 : decode cX13_found 97 = .ok (.ireturn, 1) := by decide +kernel
theorem BX13_found_0 {d bc bs : Nat} {h : aH} {n : Nat} {Q : aQ} {r0 : Option Nat} {x1 x2 : Int} (kt : x1 ≠ (-1) → Rn d bc bs mX13_found 14 [some (vR r0), some (vI x1), some (vI x2)] [] h n Q) (kf : x1 = (-1) → Rn d bc bs mX13_found 5 [some (vR r0), some (vI x1), some (vI x2)] [] h n Q) : Rn d (bc) (bs) mX13_found 0 [some (vR r0), some (vI x1), some (vI x2)] [] h n Q := by
  refine Rn_iload_n dX13_found_0 rfl rfl ?_
  refine Rn_iconst dX13_found_1 rfl ?_
  refine Rn_icmpne (tgt := 14) dX13_found_2 rfl ?_ ?_
  · exact kt
  · exact kf
theorem BX13_found_5 {d bc bs : Nat} {h : aH} {n : Nat} {Q : aQ} {ar0 at3 : Nat} {x1 x2 : Int} {f1 : List aV} {w5 : List Int} (h2 : h ar0 = cO 13 f1) (g4 : f1[0]? = some (vR (some at3))) (h6 : h at3 = cI w5) (j7 : (4 : Int) < w5.length) (z8 : at3 ≠ 0) (k : Rn d bc bs mX13_found 12 [some (vR (some ar0)), some (vI x1), some (vI x2)] [] (up h at3 (cI (w5.set (4 : Int).toNat 0))) n Q) : Rn d (bc) (bs) mX13_found 5 [some (vR (some ar0)), some (vI x1), some (vI x2)] [] h n Q := by
  refine Rn_aload_n dX13_found_5 rfl rfl rfl ?_
  refine Rn_getfield (ci := 13) (k := 0) dX13_found_6 rfl in_13 (Nat.le_of_ble_eq_true rfl) wd_1352 rfl h2 g4 ?_
  refine Rn_iconst dX13_found_9 rfl ?_
  refine Rn_iconst dX13_found_10 rfl ?_
  refine Rn_iastore dX13_found_11 z8 h6 (by decide) j7 ?_
  exact k
theorem BX13_found_12 {d bc bs : Nat} {h : aH} {n : Nat} {Q : aQ} {r0 : Option Nat} {x1 x2 : Int} (k : Q (some (vI 0)) h n) : Rn d (bc) (bs) mX13_found 12 [some (vR r0), some (vI x1), some (vI x2)] [] h n Q := by
  refine Rn_iconst dX13_found_12 rfl ?_
  exact Rn_ireturn rfl dX13_found_13 k
theorem BX13_found_14 {d bc bs : Nat} {h : aH} {n : Nat} {Q : aQ} {r0 : Option Nat} {x1 x2 : Int} (k : Rn d 0 0 mX13_isPlace 0 [some (vI x1)] [] h n (fun v h1 n1 => Rn (d + 1) bc bs mX13_found 18 [some (vR r0), some (vI x1), some (vI x2)] (v.toList ++ []) h1 n1 Q)) : Rn (d + 1) (bc) (bs) mX13_found 14 [some (vR r0), some (vI x1), some (vI x2)] [] h n Q := by
  refine Rn_iload_n dX13_found_14 rfl rfl ?_
  exact Rn_callS (avs := [vI x1]) (st := []) (bc1 := 0) (bs1 := 0) (bc2 := bc) (bs2 := bs) fx_X13_isPlace dX13_found_15 (Or.inl wd_1460) wd_1461 rfl (Nat.le_of_ble_eq_true rfl) (Nat.le_of_ble_eq_true rfl) (by omega) (by omega) (ls1 := [some (vI x1)]) rfl k
theorem BX13_found_18 {d bc bs : Nat} {h : aH} {n : Nat} {Q : aQ} {r0 : Option Nat} {x1 x2 s0 : Int} (kt : s0 = 0 → Rn d bc bs mX13_found 42 [some (vR r0), some (vI x1), some (vI x2)] [] h n Q) (kf : s0 ≠ 0 → Rn d bc bs mX13_found 21 [some (vR r0), some (vI x1), some (vI x2)] [] h n Q) : Rn d (bc) (bs) mX13_found 18 [some (vR r0), some (vI x1), some (vI x2)] [vI s0] h n Q := by
  refine Rn_ifeq (tgt := 42) dX13_found_18 rfl ?_ ?_
  · exact kt
  · exact kf
theorem BX13_found_21 {d bc bs : Nat} {h : aH} {n : Nat} {Q : aQ} {r0 : Option Nat} {x1 x2 : Int} (k : Rn d 0 0 mX13_isIn 0 [some (vI x2), some (vI 1), some (vI 60)] [] h n (fun v h1 n1 => Rn (d + 1) bc bs mX13_found 28 [some (vR r0), some (vI x1), some (vI x2)] (v.toList ++ []) h1 n1 Q)) : Rn (d + 1) (bc) (bs) mX13_found 21 [some (vR r0), some (vI x1), some (vI x2)] [] h n Q := by
  refine Rn_iload_n dX13_found_21 rfl rfl ?_
  refine Rn_iconst dX13_found_22 rfl ?_
  refine Rn_bipush dX13_found_23 rfl ?_
  exact Rn_callS (avs := [vI x2, vI 1, vI 60]) (st := []) (bc1 := 0) (bs1 := 0) (bc2 := bc) (bs2 := bs) fx_X13_isIn dX13_found_25 (Or.inl wd_1463) wd_1464 rfl (Nat.le_of_ble_eq_true rfl) (Nat.le_of_ble_eq_true rfl) (by omega) (by omega) (ls1 := [some (vI x2), some (vI 1), some (vI 60)]) rfl k
theorem BX13_found_28 {d bc bs : Nat} {h : aH} {n : Nat} {Q : aQ} {r0 : Option Nat} {x1 x2 s0 : Int} (kt : s0 = 0 → Rn d bc bs mX13_found 42 [some (vR r0), some (vI x1), some (vI x2)] [] h n Q) (kf : s0 ≠ 0 → Rn d bc bs mX13_found 31 [some (vR r0), some (vI x1), some (vI x2)] [] h n Q) : Rn d (bc) (bs) mX13_found 28 [some (vR r0), some (vI x1), some (vI x2)] [vI s0] h n Q := by
  refine Rn_ifeq (tgt := 42) dX13_found_28 rfl ?_ ?_
  · exact kt
  · exact kf
theorem BX13_found_31 {d bc bs : Nat} {h : aH} {n : Nat} {Q : aQ} {ar0 at3 : Nat} {x1 x2 v7 : Int} {f1 : List aV} {w5 : List Int} (h2 : h ar0 = cO 13 f1) (g4 : f1[0]? = some (vR (some at3))) (h6 : h at3 = cI w5) (g8 : w5[(4 : Int).toNat]? = some v7) (kt : v7 ≠ 6 → Rn d bc bs mX13_found 45 [some (vR (some ar0)), some (vI x1), some (vI x2)] [] h n Q) (kf : v7 = 6 → Rn d bc bs mX13_found 42 [some (vR (some ar0)), some (vI x1), some (vI x2)] [] h n Q) : Rn d (bc) (bs) mX13_found 31 [some (vR (some ar0)), some (vI x1), some (vI x2)] [] h n Q := by
  refine Rn_aload_n dX13_found_31 rfl rfl rfl ?_
  refine Rn_getfield (ci := 13) (k := 0) dX13_found_32 rfl in_13 (Nat.le_of_ble_eq_true rfl) wd_1352 rfl h2 g4 ?_
  refine Rn_iconst dX13_found_35 rfl ?_
  refine Rn_iaload dX13_found_36 h6 (by decide) g8 ?_
  refine Rn_bipush dX13_found_37 rfl ?_
  refine Rn_icmpne (tgt := 45) dX13_found_39 rfl ?_ ?_
  · exact kt
  · exact kf
theorem BX13_found_42 {d bc bs : Nat} {h : aH} {n : Nat} {Q : aQ} {r0 : Option Nat} {x1 x2 : Int} (k : Q (some (vI (-2))) h n) : Rn d (bc) (bs) mX13_found 42 [some (vR r0), some (vI x1), some (vI x2)] [] h n Q := by
  refine Rn_bipush dX13_found_42 rfl ?_
  exact Rn_ireturn rfl dX13_found_44 k
theorem BX13_found_45 {d bc bs : Nat} {h : aH} {n : Nat} {Q : aQ} {ar0 at3 : Nat} {x1 x2 v7 : Int} {f1 : List aV} {w5 : List Int} (h2 : h ar0 = cO 13 f1) (g4 : f1[0]? = some (vR (some at3))) (h6 : h at3 = cI w5) (g8 : w5[(4 : Int).toNat]? = some v7) (b9 : -2147483648 ≤ 2 * v7 ∧ 2 * v7 < 2147483648) (b10 : -2147483648 ≤ 125 + (2 * v7) ∧ 125 + (2 * v7) < 2147483648) (i11 : 0 ≤ 125 + (2 * v7)) (j12 : 125 + (2 * v7) < w5.length) (z13 : at3 ≠ 0) (k : Rn d bc bs mX13_found 62 [some (vR (some ar0)), some (vI x1), some (vI x2)] [] (up h at3 (cI (w5.set (125 + (2 * v7) : Int).toNat x1))) n Q) : Rn d (bc) (bs) mX13_found 45 [some (vR (some ar0)), some (vI x1), some (vI x2)] [] h n Q := by
  refine Rn_aload_n dX13_found_45 rfl rfl rfl ?_
  refine Rn_getfield (ci := 13) (k := 0) dX13_found_46 rfl in_13 (Nat.le_of_ble_eq_true rfl) wd_1352 rfl h2 g4 ?_
  refine Rn_bipush dX13_found_49 rfl ?_
  refine Rn_iconst dX13_found_51 rfl ?_
  refine Rn_aload_n dX13_found_52 rfl rfl rfl ?_
  refine Rn_getfield (ci := 13) (k := 0) dX13_found_53 rfl in_13 (Nat.le_of_ble_eq_true rfl) wd_1352 rfl h2 g4 ?_
  refine Rn_iconst dX13_found_56 rfl ?_
  refine Rn_iaload dX13_found_57 h6 (by decide) g8 ?_
  refine Rn_imul dX13_found_58 ?_
  rw [w32_id b9.1 b9.2]
  refine Rn_iadd dX13_found_59 ?_
  rw [w32_id b10.1 b10.2]
  refine Rn_iload_n dX13_found_60 rfl rfl ?_
  refine Rn_iastore dX13_found_61 z13 h6 i11 j12 ?_
  exact k
theorem BX13_found_62 {d bc bs : Nat} {h : aH} {n : Nat} {Q : aQ} {ar0 at3 : Nat} {x1 x2 v7 : Int} {f1 : List aV} {w5 : List Int} (h2 : h ar0 = cO 13 f1) (g4 : f1[0]? = some (vR (some at3))) (h6 : h at3 = cI w5) (g8 : w5[(4 : Int).toNat]? = some v7) (b9 : -2147483648 ≤ 2 * v7 ∧ 2 * v7 < 2147483648) (b10 : -2147483648 ≤ 125 + (2 * v7) ∧ 125 + (2 * v7) < 2147483648) (b11 : -2147483648 ≤ (125 + (2 * v7)) + 1 ∧ (125 + (2 * v7)) + 1 < 2147483648) (i12 : 0 ≤ (125 + (2 * v7)) + 1) (j13 : (125 + (2 * v7)) + 1 < w5.length) (z14 : at3 ≠ 0) (k : Rn d bc bs mX13_found 81 [some (vR (some ar0)), some (vI x1), some (vI x2)] [] (up h at3 (cI (w5.set ((125 + (2 * v7)) + 1 : Int).toNat x2))) n Q) : Rn d (bc) (bs) mX13_found 62 [some (vR (some ar0)), some (vI x1), some (vI x2)] [] h n Q := by
  refine Rn_aload_n dX13_found_62 rfl rfl rfl ?_
  refine Rn_getfield (ci := 13) (k := 0) dX13_found_63 rfl in_13 (Nat.le_of_ble_eq_true rfl) wd_1352 rfl h2 g4 ?_
  refine Rn_bipush dX13_found_66 rfl ?_
  refine Rn_iconst dX13_found_68 rfl ?_
  refine Rn_aload_n dX13_found_69 rfl rfl rfl ?_
  refine Rn_getfield (ci := 13) (k := 0) dX13_found_70 rfl in_13 (Nat.le_of_ble_eq_true rfl) wd_1352 rfl h2 g4 ?_
  refine Rn_iconst dX13_found_73 rfl ?_
  refine Rn_iaload dX13_found_74 h6 (by decide) g8 ?_
  refine Rn_imul dX13_found_75 ?_
  rw [w32_id b9.1 b9.2]
  refine Rn_iadd dX13_found_76 ?_
  rw [w32_id b10.1 b10.2]
  refine Rn_iconst dX13_found_77 rfl ?_
  refine Rn_iadd dX13_found_78 ?_
  rw [w32_id b11.1 b11.2]
  refine Rn_iload_n dX13_found_79 rfl rfl ?_
  refine Rn_iastore dX13_found_80 z14 h6 i12 j13 ?_
  exact k
theorem BX13_found_81 {d bc bs : Nat} {h : aH} {n : Nat} {Q : aQ} {ar0 at3 : Nat} {x1 x2 v7 : Int} {f1 : List aV} {w5 : List Int} (h2 : h ar0 = cO 13 f1) (g4 : f1[0]? = some (vR (some at3))) (h6 : h at3 = cI w5) (g8 : w5[(4 : Int).toNat]? = some v7) (b9 : -2147483648 ≤ v7 + 1 ∧ v7 + 1 < 2147483648) (j10 : (4 : Int) < w5.length) (z11 : at3 ≠ 0) (k : Rn d bc bs mX13_found 91 [some (vR (some ar0)), some (vI x1), some (vI x2)] [] (up h at3 (cI (w5.set (4 : Int).toNat (v7 + 1)))) n Q) : Rn d (bc) (bs) mX13_found 81 [some (vR (some ar0)), some (vI x1), some (vI x2)] [] h n Q := by
  refine Rn_aload_n dX13_found_81 rfl rfl rfl ?_
  refine Rn_getfield (ci := 13) (k := 0) dX13_found_82 rfl in_13 (Nat.le_of_ble_eq_true rfl) wd_1352 rfl h2 g4 ?_
  refine Rn_iconst dX13_found_85 rfl ?_
  refine Rn_dup2 dX13_found_86 rfl rfl ?_
  refine Rn_iaload dX13_found_87 h6 (by decide) g8 ?_
  refine Rn_iconst dX13_found_88 rfl ?_
  refine Rn_iadd dX13_found_89 ?_
  rw [w32_id b9.1 b9.2]
  refine Rn_iastore dX13_found_90 z11 h6 (by decide) j10 ?_
  exact k
theorem BX13_found_91 {d bc bs : Nat} {h : aH} {n : Nat} {Q : aQ} {ar0 at3 : Nat} {x1 x2 v7 : Int} {f1 : List aV} {w5 : List Int} (h2 : h ar0 = cO 13 f1) (g4 : f1[0]? = some (vR (some at3))) (h6 : h at3 = cI w5) (g8 : w5[(4 : Int).toNat]? = some v7) (k : Q (some (vI v7)) h n) : Rn d (bc) (bs) mX13_found 91 [some (vR (some ar0)), some (vI x1), some (vI x2)] [] h n Q := by
  refine Rn_aload_n dX13_found_91 rfl rfl rfl ?_
  refine Rn_getfield (ci := 13) (k := 0) dX13_found_92 rfl in_13 (Nat.le_of_ble_eq_true rfl) wd_1352 rfl h2 g4 ?_
  refine Rn_iconst dX13_found_95 rfl ?_
  refine Rn_iaload dX13_found_96 h6 (by decide) g8 ?_
  exact Rn_ireturn rfl dX13_found_97 k
theorem dX13_isFrom_0 : decode cX13_isFrom 0 = .ok (.iconst 0, 1) := by decide +kernel
theorem dX13_isFrom_1 : decode cX13_isFrom 1 = .ok (.istore_n 3, 1) := by decide +kernel
theorem dX13_isFrom_2 : decode cX13_isFrom 2 = .ok (.iload_n 3, 1) := by decide +kernel
theorem dX13_isFrom_3 : decode cX13_isFrom 3 = .ok (.aload_n 0, 1) := by decide +kernel
theorem dX13_isFrom_4 : decode cX13_isFrom 4 = .ok (.getfield 7, 3) := by decide +kernel
theorem dX13_isFrom_7 : decode cX13_isFrom 7 = .ok (.iconst 4, 1) := by decide +kernel
theorem dX13_isFrom_8 : decode cX13_isFrom 8 = .ok (.iaload, 1) := by decide +kernel
theorem dX13_isFrom_9 : decode cX13_isFrom 9 = .ok (.if_icmp .ge 69, 3) := by decide +kernel
theorem dX13_isFrom_12 : decode cX13_isFrom 12 = .ok (.iload_n 1, 1) := by decide +kernel
theorem dX13_isFrom_13 : decode cX13_isFrom 13 = .ok (.istore 4, 2) := by decide +kernel
theorem dX13_isFrom_15 : decode cX13_isFrom 15 = .ok (.iconst 0, 1) := by decide +kernel
theorem dX13_isFrom_16 : decode cX13_isFrom 16 = .ok (.istore 5, 2) := by decide +kernel
theorem dX13_isFrom_18 : decode cX13_isFrom 18 = .ok (.iload 5, 2) := by decide +kernel
theorem dX13_isFrom_20 : decode cX13_isFrom 20 = .ok (.aload_n 0, 1) := by decide +kernel
theorem dX13_isFrom_21 : decode cX13_isFrom 21 = .ok (.getfield 7, 3) := by decide +kernel
theorem dX13_isFrom_24 : decode cX13_isFrom 24 = .ok (.bipush 125, 2) := by decide +kernel
theorem dX13_isFrom_26 : decode cX13_isFrom 26 = .ok (.iconst 2, 1) := by decide +kernel
theorem dX13_isFrom_27 : decode cX13_isFrom 27 = .ok (.iload_n 3, 1) := by decide +kernel
theorem dX13_isFrom_28 : decode cX13_isFrom 28 = .ok (.imul, 1) := by decide +kernel
theorem dX13_isFrom_29 : decode cX13_isFrom 29 = .ok (.iadd, 1) := by decide +kernel
theorem dX13_isFrom_30 : decode cX13_isFrom 30 = .ok (.iconst 1, 1) := by decide +kernel
theorem dX13_isFrom_31 : decode cX13_isFrom 31 = .ok (.iadd, 1) := by decide +kernel
theorem dX13_isFrom_32 : decode cX13_isFrom 32 = .ok (.iaload, 1) := by decide +kernel
theorem dX13_isFrom_33 : decode cX13_isFrom 33 = .ok (.if_icmp .ge 21, 3) := by decide +kernel
theorem dX13_isFrom_36 : decode cX13_isFrom 36 = .ok (.aload_n 0, 1) := by decide +kernel
theorem dX13_isFrom_37 : decode cX13_isFrom 37 = .ok (.iload_n 2, 1) := by decide +kernel
theorem dX13_isFrom_38 : decode cX13_isFrom 38 = .ok (.iload 5, 2) := by decide +kernel
theorem dX13_isFrom_40 : decode cX13_isFrom 40 = .ok (.iadd, 1) := by decide +kernel
theorem dX13_isFrom_41 : decode cX13_isFrom 41 = .ok (.iload 4, 2) := by decide +kernel
theorem dX13_isFrom_43 : decode cX13_isFrom 43 = .ok (.invokevirtual 325, 3) := by decide +kernel
theorem dX13_isFrom_46 : decode cX13_isFrom 46 = .ok (.istore 4, 2) := by decide +kernel
theorem dX13_isFrom_48 : decode cX13_isFrom 48 = .ok (.iinc 5 1, 3) := by decide +kernel
theorem dX13_isFrom_51 : decode cX13_isFrom 51 = .ok (.goto (-33), 3) := by decide +kernel
theorem dX13_isFrom_54 : decode cX13_isFrom 54 = .ok (.iload 4, 2) := by decide +kernel
theorem dX13_isFrom_56 : decode cX13_isFrom 56 = .ok (.aload_n 0, 1) := by decide +kernel
theorem dX13_isFrom_57 : decode cX13_isFrom 57 = .ok (.getfield 7, 3) := by decide +kernel
theorem dX13_isFrom_60 : decode cX13_isFrom 60 = .ok (.bipush 125, 2) := by decide +kernel
theorem dX13_isFrom_62 : decode cX13_isFrom 62 = .ok (.iconst 2, 1) := by decide +kernel
theorem dX13_isFrom_63 : decode cX13_isFrom 63 = .ok (.iload_n 3, 1) := by decide +kernel
theorem dX13_isFrom_64 : decode cX13_isFrom 64 = .ok (.imul, 1) := by decide +kernel
theorem dX13_isFrom_65 : decode cX13_isFrom 65 = .ok (.iadd, 1) := by decide +kernel
theorem dX13_isFrom_66 : decode cX13_isFrom 66 = .ok (.iaload, 1) := by decide +kernel
theorem dX13_isFrom_67 : decode cX13_isFrom 67 = .ok (.if_icmp .eq 5, 3) := by decide +kernel
theorem dX13_isFrom_70 : decode cX13_isFrom 70 = .ok (.iconst 0, 1) := by decide +kernel
theorem dX13_isFrom_71 : decode cX13_isFrom 71 = .ok (.ireturn, 1) := by decide +kernel
theorem dX13_isFrom_72 : decode cX13_isFrom 72 = .ok (.iinc 3 1, 3) := by decide +kernel
theorem dX13_isFrom_75 : decode cX13_isFrom 75 = .ok (.goto (-73), 3) := by decide +kernel
theorem dX13_isFrom_78 : decode cX13_isFrom 78 = .ok (.iconst 1, 1) := by decide +kernel
theorem dX13_isFrom_79 : decode cX13_isFrom 79 = .ok (.ireturn, 1) := by decide +kernel
theorem BX13_isFrom_0 {d bc bs : Nat} {h : aH} {n : Nat} {Q : aQ} {r0 : Option Nat} {x1 x2 : Int} {l3 l4 l5 : Option aV} (k : Rn d bc bs mX13_isFrom 2 [some (vR r0), some (vI x1), some (vI x2), some (vI 0), l4, l5] [] h n Q) : Rn d (bc) (bs) mX13_isFrom 0 [some (vR r0), some (vI x1), some (vI x2), l3, l4, l5] [] h n Q := by
  refine Rn_iconst dX13_isFrom_0 rfl ?_
  refine Rn_istore_n dX13_isFrom_1 rfl (Nat.le_of_ble_eq_true rfl) rfl rfl ?_
  exact k
theorem BX13_isFrom_2 {d bc bs : Nat} {h : aH} {n : Nat} {Q : aQ} {ar0 at3 : Nat} {x1 x2 x3 v7 : Int} {l4 l5 : Option aV} {f1 : List aV} {w5 : List Int} (h2 : h ar0 = cO 13 f1) (g4 : f1[0]? = some (vR (some at3))) (h6 : h at3 = cI w5) (g8 : w5[(4 : Int).toNat]? = some v7) (kt : v7 ≤ x3 → Rn d bc bs mX13_isFrom 78 [some (vR (some ar0)), some (vI x1), some (vI x2), some (vI x3), l4, l5] [] h n Q) (kf : x3 < v7 → Rn d bc bs mX13_isFrom 12 [some (vR (some ar0)), some (vI x1), some (vI x2), some (vI x3), l4, l5] [] h n Q) : Rn d (bc) (bs) mX13_isFrom 2 [some (vR (some ar0)), some (vI x1), some (vI x2), some (vI x3), l4, l5] [] h n Q := by
  refine Rn_iload_n dX13_isFrom_2 rfl rfl ?_
  refine Rn_aload_n dX13_isFrom_3 rfl rfl rfl ?_
  refine Rn_getfield (ci := 13) (k := 0) dX13_isFrom_4 rfl in_13 (Nat.le_of_ble_eq_true rfl) wd_1352 rfl h2 g4 ?_
  refine Rn_iconst dX13_isFrom_7 rfl ?_
  refine Rn_iaload dX13_isFrom_8 h6 (by decide) g8 ?_
  refine Rn_icmpge (tgt := 78) dX13_isFrom_9 rfl ?_ ?_
  · exact kt
  · exact kf
theorem BX13_isFrom_12 {d bc bs : Nat} {h : aH} {n : Nat} {Q : aQ} {r0 : Option Nat} {x1 x2 x3 : Int} {l4 l5 : Option aV} (k : Rn d bc bs mX13_isFrom 18 [some (vR r0), some (vI x1), some (vI x2), some (vI x3), some (vI x1), some (vI 0)] [] h n Q) : Rn d (bc) (bs) mX13_isFrom 12 [some (vR r0), some (vI x1), some (vI x2), some (vI x3), l4, l5] [] h n Q := by
  refine Rn_iload_n dX13_isFrom_12 rfl rfl ?_
  refine Rn_istore dX13_isFrom_13 (Nat.le_of_ble_eq_true rfl) rfl rfl ?_
  refine Rn_iconst dX13_isFrom_15 rfl ?_
  refine Rn_istore dX13_isFrom_16 (Nat.le_of_ble_eq_true rfl) rfl rfl ?_
  exact k
theorem BX13_isFrom_18 {d bc bs : Nat} {h : aH} {n : Nat} {Q : aQ} {ar0 at3 : Nat} {x1 x2 x3 x4 x5 v10 : Int} {f1 : List aV} {w8 : List Int} (h2 : h ar0 = cO 13 f1) (g4 : f1[0]? = some (vR (some at3))) (b5 : -2147483648 ≤ 2 * x3 ∧ 2 * x3 < 2147483648) (b6 : -2147483648 ≤ 125 + (2 * x3) ∧ 125 + (2 * x3) < 2147483648) (b7 : -2147483648 ≤ (125 + (2 * x3)) + 1 ∧ (125 + (2 * x3)) + 1 < 2147483648) (h9 : h at3 = cI w8) (i11 : 0 ≤ (125 + (2 * x3)) + 1) (g12 : w8[((125 + (2 * x3)) + 1 : Int).toNat]? = some v10) (kt : v10 ≤ x5 → Rn d bc bs mX13_isFrom 54 [some (vR (some ar0)), some (vI x1), some (vI x2), some (vI x3), some (vI x4), some (vI x5)] [] h n Q) (kf : x5 < v10 → Rn d bc bs mX13_isFrom 36 [some (vR (some ar0)), some (vI x1), some (vI x2), some (vI x3), some (vI x4), some (vI x5)] [] h n Q) : Rn d (bc) (bs) mX13_isFrom 18 [some (vR (some ar0)), some (vI x1), some (vI x2), some (vI x3), some (vI x4), some (vI x5)] [] h n Q := by
  refine Rn_iload dX13_isFrom_18 rfl ?_
  refine Rn_aload_n dX13_isFrom_20 rfl rfl rfl ?_
  refine Rn_getfield (ci := 13) (k := 0) dX13_isFrom_21 rfl in_13 (Nat.le_of_ble_eq_true rfl) wd_1352 rfl h2 g4 ?_
  refine Rn_bipush dX13_isFrom_24 rfl ?_
  refine Rn_iconst dX13_isFrom_26 rfl ?_
  refine Rn_iload_n dX13_isFrom_27 rfl rfl ?_
  refine Rn_imul dX13_isFrom_28 ?_
  rw [w32_id b5.1 b5.2]
  refine Rn_iadd dX13_isFrom_29 ?_
  rw [w32_id b6.1 b6.2]
  refine Rn_iconst dX13_isFrom_30 rfl ?_
  refine Rn_iadd dX13_isFrom_31 ?_
  rw [w32_id b7.1 b7.2]
  refine Rn_iaload dX13_isFrom_32 h9 i11 g12 ?_
  refine Rn_icmpge (tgt := 54) dX13_isFrom_33 rfl ?_ ?_
  · exact kt
  · exact kf
theorem BX13_isFrom_36 {d bc bs : Nat} {h : aH} {n : Nat} {Q : aQ} {ar0 : Nat} {x1 x2 x3 x4 x5 : Int} {f2 : List aV} (b1 : -2147483648 ≤ x2 + x5 ∧ x2 + x5 < 2147483648) (h3 : h ar0 = cO 13 f2) (k : Rn d 0 0 mX13_flowsTo 0 [some (vR (some ar0)), some (vI (x2 + x5)), some (vI x4)] [] h n (fun v h1 n1 => Rn (d + 1) bc bs mX13_isFrom 46 [some (vR (some ar0)), some (vI x1), some (vI x2), some (vI x3), some (vI x4), some (vI x5)] (v.toList ++ []) h1 n1 Q)) : Rn (d + 1) (bc) (bs) mX13_isFrom 36 [some (vR (some ar0)), some (vI x1), some (vI x2), some (vI x3), some (vI x4), some (vI x5)] [] h n Q := by
  refine Rn_aload_n dX13_isFrom_36 rfl rfl rfl ?_
  refine Rn_iload_n dX13_isFrom_37 rfl rfl ?_
  refine Rn_iload dX13_isFrom_38 rfl ?_
  refine Rn_iadd dX13_isFrom_40 ?_
  rw [w32_id b1.1 b1.2]
  refine Rn_iload dX13_isFrom_41 rfl ?_
  exact Rn_callV (ci := 13) (avs := [vI (x2 + x5), vI x4]) (st := []) (bc1 := 0) (bs1 := 0) (bc2 := bc) (bs2 := bs) fx_X13_flowsTo dX13_isFrom_43 wd_1722 wd_1724 wd_90 rfl h3 rfl (Nat.le_of_ble_eq_true rfl) (Nat.le_of_ble_eq_true rfl) (by omega) (by omega) (ls1 := [some (vR (some ar0)), some (vI (x2 + x5)), some (vI x4)]) rfl k
theorem BX13_isFrom_46 {d bc bs : Nat} {h : aH} {n : Nat} {Q : aQ} {r0 : Option Nat} {x1 x2 x3 x4 x5 s0 : Int} (b1 : -2147483648 ≤ x5 + 1 ∧ x5 + 1 < 2147483648) (k : Rn d bc bs mX13_isFrom 18 [some (vR r0), some (vI x1), some (vI x2), some (vI x3), some (vI s0), some (vI (x5 + 1))] [] h n Q) : Rn d (bc) (bs) mX13_isFrom 46 [some (vR r0), some (vI x1), some (vI x2), some (vI x3), some (vI x4), some (vI x5)] [vI s0] h n Q := by
  refine Rn_istore dX13_isFrom_46 (Nat.le_of_ble_eq_true rfl) rfl rfl ?_
  refine Rn_iinc dX13_isFrom_48 rfl (Nat.le_of_ble_eq_true rfl) rfl rfl rfl ?_
  rw [w32_id b1.1 b1.2]
  refine Rn_goto (tgt := 18) dX13_isFrom_51 rfl ?_
  exact k
theorem BX13_isFrom_54 {d bc bs : Nat} {h : aH} {n : Nat} {Q : aQ} {ar0 at3 : Nat} {x1 x2 x3 x4 x5 v9 : Int} {f1 : List aV} {w7 : List Int} (h2 : h ar0 = cO 13 f1) (g4 : f1[0]? = some (vR (some at3))) (b5 : -2147483648 ≤ 2 * x3 ∧ 2 * x3 < 2147483648) (b6 : -2147483648 ≤ 125 + (2 * x3) ∧ 125 + (2 * x3) < 2147483648) (h8 : h at3 = cI w7) (i10 : 0 ≤ 125 + (2 * x3)) (g11 : w7[(125 + (2 * x3) : Int).toNat]? = some v9) (kt : x4 = v9 → Rn d bc bs mX13_isFrom 72 [some (vR (some ar0)), some (vI x1), some (vI x2), some (vI x3), some (vI x4), some (vI x5)] [] h n Q) (kf : x4 ≠ v9 → Rn d bc bs mX13_isFrom 70 [some (vR (some ar0)), some (vI x1), some (vI x2), some (vI x3), some (vI x4), some (vI x5)] [] h n Q) : Rn d (bc) (bs) mX13_isFrom 54 [some (vR (some ar0)), some (vI x1), some (vI x2), some (vI x3), some (vI x4), some (vI x5)] [] h n Q := by
  refine Rn_iload dX13_isFrom_54 rfl ?_
  refine Rn_aload_n dX13_isFrom_56 rfl rfl rfl ?_
  refine Rn_getfield (ci := 13) (k := 0) dX13_isFrom_57 rfl in_13 (Nat.le_of_ble_eq_true rfl) wd_1352 rfl h2 g4 ?_
  refine Rn_bipush dX13_isFrom_60 rfl ?_
  refine Rn_iconst dX13_isFrom_62 rfl ?_
  refine Rn_iload_n dX13_isFrom_63 rfl rfl ?_
  refine Rn_imul dX13_isFrom_64 ?_
  rw [w32_id b5.1 b5.2]
  refine Rn_iadd dX13_isFrom_65 ?_
  rw [w32_id b6.1 b6.2]
  refine Rn_iaload dX13_isFrom_66 h8 i10 g11 ?_
  refine Rn_icmpeq (tgt := 72) dX13_isFrom_67 rfl ?_ ?_
  · exact kt
  · exact kf
theorem BX13_isFrom_70 {d bc bs : Nat} {h : aH} {n : Nat} {Q : aQ} {r0 : Option Nat} {x1 x2 x3 x4 x5 : Int} (k : Q (some (vI 0)) h n) : Rn d (bc) (bs) mX13_isFrom 70 [some (vR r0), some (vI x1), some (vI x2), some (vI x3), some (vI x4), some (vI x5)] [] h n Q := by
  refine Rn_iconst dX13_isFrom_70 rfl ?_
  exact Rn_zreturn rfl dX13_isFrom_71 (by decide) k
theorem BX13_isFrom_72 {d bc bs : Nat} {h : aH} {n : Nat} {Q : aQ} {r0 : Option Nat} {x1 x2 x3 x4 x5 : Int} (b1 : -2147483648 ≤ x3 + 1 ∧ x3 + 1 < 2147483648) (k : Rn d bc bs mX13_isFrom 2 [some (vR r0), some (vI x1), some (vI x2), some (vI (x3 + 1)), some (vI x4), some (vI x5)] [] h n Q) : Rn d (bc) (bs) mX13_isFrom 72 [some (vR r0), some (vI x1), some (vI x2), some (vI x3), some (vI x4), some (vI x5)] [] h n Q := by
  refine Rn_iinc dX13_isFrom_72 rfl (Nat.le_of_ble_eq_true rfl) rfl rfl rfl ?_
  rw [w32_id b1.1 b1.2]
  refine Rn_goto (tgt := 2) dX13_isFrom_75 rfl ?_
  exact k
theorem BX13_isFrom_78 {d bc bs : Nat} {h : aH} {n : Nat} {Q : aQ} {r0 : Option Nat} {x1 x2 x3 : Int} {l4 l5 : Option aV} (k : Q (some (vI 1)) h n) : Rn d (bc) (bs) mX13_isFrom 78 [some (vR r0), some (vI x1), some (vI x2), some (vI x3), l4, l5] [] h n Q := by
  refine Rn_iconst dX13_isFrom_78 rfl ?_
  exact Rn_zreturn rfl dX13_isFrom_79 (by decide) k
theorem dX13_tossed_0 : decode cX13_tossed 0 = .ok (.iload_n 1, 1) := by decide +kernel
theorem dX13_tossed_1 : decode cX13_tossed 1 = .ok (.iconst 0, 1) := by decide +kernel
theorem dX13_tossed_2 : decode cX13_tossed 2 = .ok (.iconst 1, 1) := by decide +kernel
theorem dX13_tossed_3 : decode cX13_tossed 3 = .ok (.invokestatic 72, 3) := by decide +kernel
theorem dX13_tossed_6 : decode cX13_tossed 6 = .ok (.ifCond .ne 5, 3) := by decide +kernel
theorem dX13_tossed_9 : decode cX13_tossed 9 = .ok (.iconst (-1), 1) := by decide +kernel
theorem dX13_tossed_10 : decode cX13_tossed 10 = .ok (.ireturn, 1) := by decide +kernel
theorem dX13_tossed_11 : decode cX13_tossed 11 = .ok (.iconst 0, 1) := by decide +kernel
theorem dX13_tossed_12 : decode cX13_tossed 12 = .ok (.istore_n 2, 1) := by decide +kernel
theorem dX13_tossed_13 : decode cX13_tossed 13 = .ok (.iconst 0, 1) := by decide +kernel
theorem dX13_tossed_14 : decode cX13_tossed 14 = .ok (.istore_n 3, 1) := by decide +kernel
theorem dX13_tossed_15 : decode cX13_tossed 15 = .ok (.iconst 0, 1) := by decide +kernel
theorem dX13_tossed_16 : decode cX13_tossed 16 = .ok (.istore 4, 2) := by decide +kernel
theorem dX13_tossed_18 : decode cX13_tossed 18 = .ok (.iload 4, 2) := by decide +kernel
theorem dX13_tossed_20 : decode cX13_tossed 20 = .ok (.bipush 10, 2) := by decide +kernel
theorem dX13_tossed_22 : decode cX13_tossed 22 = .ok (.if_icmp .ge 48, 3) := by decide +kernel
theorem dX13_tossed_25 : decode cX13_tossed 25 = .ok (.iconst 0, 1) := by decide +kernel
theorem dX13_tossed_26 : decode cX13_tossed 26 = .ok (.istore 5, 2) := by decide +kernel
theorem dX13_tossed_28 : decode cX13_tossed 28 = .ok (.iload 5, 2) := by decide +kernel
theorem dX13_tossed_30 : decode cX13_tossed 30 = .ok (.iconst 3, 1) := by decide +kernel
theorem dX13_tossed_31 : decode cX13_tossed 31 = .ok (.if_icmp .ge 33, 3) := by decide +kernel
theorem dX13_tossed_34 : decode cX13_tossed 34 = .ok (.aload_n 0, 1) := by decide +kernel
theorem dX13_tossed_35 : decode cX13_tossed 35 = .ok (.iload 4, 2) := by decide +kernel
theorem dX13_tossed_37 : decode cX13_tossed 37 = .ok (.iload 5, 2) := by decide +kernel
theorem dX13_tossed_39 : decode cX13_tossed 39 = .ok (.invokevirtual 435, 3) := by decide +kernel
theorem dX13_tossed_42 : decode cX13_tossed 42 = .ok (.ifCond .ne 6, 3) := by decide +kernel
theorem dX13_tossed_45 : decode cX13_tossed 45 = .ok (.goto 13, 3) := by decide +kernel
theorem dX13_tossed_48 : decode cX13_tossed 48 = .ok (.iload_n 2, 1) := by decide +kernel
theorem dX13_tossed_49 : decode cX13_tossed 49 = .ok (.iconst 1, 1) := by decide +kernel
theorem dX13_tossed_50 : decode cX13_tossed 50 = .ok (.iload 4, 2) := by decide +kernel
theorem dX13_tossed_52 : decode cX13_tossed 52 = .ok (.ishl, 1) := by decide +kernel
theorem dX13_tossed_53 : decode cX13_tossed 53 = .ok (.ior, 1) := by decide +kernel
theorem dX13_tossed_54 : decode cX13_tossed 54 = .ok (.istore_n 2, 1) := by decide +kernel
theorem dX13_tossed_55 : decode cX13_tossed 55 = .ok (.iinc 3 1, 3) := by decide +kernel
theorem dX13_tossed_58 : decode cX13_tossed 58 = .ok (.iinc 5 1, 3) := by decide +kernel
theorem dX13_tossed_61 : decode cX13_tossed 61 = .ok (.goto (-33), 3) := by decide +kernel
theorem dX13_tossed_64 : decode cX13_tossed 64 = .ok (.iinc 4 1, 3) := by decide +kernel
theorem dX13_tossed_67 : decode cX13_tossed 67 = .ok (.goto (-49), 3) := by decide +kernel
theorem dX13_tossed_70 : decode cX13_tossed 70 = .ok (.iload_n 1, 1) := by decide +kernel
theorem dX13_tossed_71 : decode cX13_tossed 71 = .ok (.ifCond .ne 7, 3) := by decide +kernel
theorem dX13_tossed_74 : decode cX13_tossed 74 = .ok (.iload_n 2, 1) := by decide +kernel
theorem dX13_tossed_75 : decode cX13_tossed 75 = .ok (.goto 4, 3) := by decide +kernel
theorem dX13_tossed_78 : decode cX13_tossed 78 = .ok (.iload_n 3, 1) := by decide +kernel
theorem dX13_tossed_79 : decode cX13_tossed 79 = .ok (.ireturn, 1) := by decide +kernel
theorem BX13_tossed_0 {d bc bs : Nat} {h : aH} {n : Nat} {Q : aQ} {r0 : Option Nat} {x1 : Int} {l2 l3 l4 l5 : Option aV} (k : Rn d 0 0 mX13_isIn 0 [some (vI x1), some (vI 0), some (vI 1)] [] h n (fun v h1 n1 => Rn (d + 1) bc bs mX13_tossed 6 [some (vR r0), some (vI x1), l2, l3, l4, l5] (v.toList ++ []) h1 n1 Q)) : Rn (d + 1) (bc) (bs) mX13_tossed 0 [some (vR r0), some (vI x1), l2, l3, l4, l5] [] h n Q := by
  refine Rn_iload_n dX13_tossed_0 rfl rfl ?_
  refine Rn_iconst dX13_tossed_1 rfl ?_
  refine Rn_iconst dX13_tossed_2 rfl ?_
  exact Rn_callS (avs := [vI x1, vI 0, vI 1]) (st := []) (bc1 := 0) (bs1 := 0) (bc2 := bc) (bs2 := bs) fx_X13_isIn dX13_tossed_3 (Or.inl wd_1463) wd_1464 rfl (Nat.le_of_ble_eq_true rfl) (Nat.le_of_ble_eq_true rfl) (by omega) (by omega) (ls1 := [some (vI x1), some (vI 0), some (vI 1)]) rfl k
theorem BX13_tossed_6 {d bc bs : Nat} {h : aH} {n : Nat} {Q : aQ} {r0 : Option Nat} {x1 s0 : Int} {l2 l3 l4 l5 : Option aV} (kt : s0 ≠ 0 → Rn d bc bs mX13_tossed 11 [some (vR r0), some (vI x1), l2, l3, l4, l5] [] h n Q) (kf : s0 = 0 → Rn d bc bs mX13_tossed 9 [some (vR r0), some (vI x1), l2, l3, l4, l5] [] h n Q) : Rn d (bc) (bs) mX13_tossed 6 [some (vR r0), some (vI x1), l2, l3, l4, l5] [vI s0] h n Q := by
  refine Rn_ifne (tgt := 11) dX13_tossed_6 rfl ?_ ?_
  · exact kt
  · exact kf
theorem BX13_tossed_9 {d bc bs : Nat} {h : aH} {n : Nat} {Q : aQ} {r0 : Option Nat} {x1 : Int} {l2 l3 l4 l5 : Option aV} (k : Q (some (vI (-1))) h n) : Rn d (bc) (bs) mX13_tossed 9 [some (vR r0), some (vI x1), l2, l3, l4, l5] [] h n Q := by
  refine Rn_iconst dX13_tossed_9 rfl ?_
  exact Rn_ireturn rfl dX13_tossed_10 k
theorem BX13_tossed_11 {d bc bs : Nat} {h : aH} {n : Nat} {Q : aQ} {r0 : Option Nat} {x1 : Int} {l2 l3 l4 l5 : Option aV} (k : Rn d bc bs mX13_tossed 18 [some (vR r0), some (vI x1), some (vI 0), some (vI 0), some (vI 0), l5] [] h n Q) : Rn d (bc) (bs) mX13_tossed 11 [some (vR r0), some (vI x1), l2, l3, l4, l5] [] h n Q := by
  refine Rn_iconst dX13_tossed_11 rfl ?_
  refine Rn_istore_n dX13_tossed_12 rfl (Nat.le_of_ble_eq_true rfl) rfl rfl ?_
  refine Rn_iconst dX13_tossed_13 rfl ?_
  refine Rn_istore_n dX13_tossed_14 rfl (Nat.le_of_ble_eq_true rfl) rfl rfl ?_
  refine Rn_iconst dX13_tossed_15 rfl ?_
  refine Rn_istore dX13_tossed_16 (Nat.le_of_ble_eq_true rfl) rfl rfl ?_
  exact k
theorem BX13_tossed_18 {d bc bs : Nat} {h : aH} {n : Nat} {Q : aQ} {r0 : Option Nat} {x1 x2 x3 x4 : Int} {l5 : Option aV} (kt : 10 ≤ x4 → Rn d bc bs mX13_tossed 70 [some (vR r0), some (vI x1), some (vI x2), some (vI x3), some (vI x4), l5] [] h n Q) (kf : x4 < 10 → Rn d bc bs mX13_tossed 25 [some (vR r0), some (vI x1), some (vI x2), some (vI x3), some (vI x4), l5] [] h n Q) : Rn d (bc) (bs) mX13_tossed 18 [some (vR r0), some (vI x1), some (vI x2), some (vI x3), some (vI x4), l5] [] h n Q := by
  refine Rn_iload dX13_tossed_18 rfl ?_
  refine Rn_bipush dX13_tossed_20 rfl ?_
  refine Rn_icmpge (tgt := 70) dX13_tossed_22 rfl ?_ ?_
  · exact kt
  · exact kf
theorem BX13_tossed_25 {d bc bs : Nat} {h : aH} {n : Nat} {Q : aQ} {r0 : Option Nat} {x1 x2 x3 x4 : Int} {l5 : Option aV} (k : Rn d bc bs mX13_tossed 28 [some (vR r0), some (vI x1), some (vI x2), some (vI x3), some (vI x4), some (vI 0)] [] h n Q) : Rn d (bc) (bs) mX13_tossed 25 [some (vR r0), some (vI x1), some (vI x2), some (vI x3), some (vI x4), l5] [] h n Q := by
  refine Rn_iconst dX13_tossed_25 rfl ?_
  refine Rn_istore dX13_tossed_26 (Nat.le_of_ble_eq_true rfl) rfl rfl ?_
  exact k
theorem BX13_tossed_28 {d bc bs : Nat} {h : aH} {n : Nat} {Q : aQ} {r0 : Option Nat} {x1 x2 x3 x4 x5 : Int} (kt : 3 ≤ x5 → Rn d bc bs mX13_tossed 64 [some (vR r0), some (vI x1), some (vI x2), some (vI x3), some (vI x4), some (vI x5)] [] h n Q) (kf : x5 < 3 → Rn d bc bs mX13_tossed 34 [some (vR r0), some (vI x1), some (vI x2), some (vI x3), some (vI x4), some (vI x5)] [] h n Q) : Rn d (bc) (bs) mX13_tossed 28 [some (vR r0), some (vI x1), some (vI x2), some (vI x3), some (vI x4), some (vI x5)] [] h n Q := by
  refine Rn_iload dX13_tossed_28 rfl ?_
  refine Rn_iconst dX13_tossed_30 rfl ?_
  refine Rn_icmpge (tgt := 64) dX13_tossed_31 rfl ?_ ?_
  · exact kt
  · exact kf
theorem BX13_tossed_34 {d bc bs : Nat} {h : aH} {n : Nat} {Q : aQ} {ar0 : Nat} {x1 x2 x3 x4 x5 : Int} {f1 : List aV} (h2 : h ar0 = cO 13 f1) (k : Rn d 0 0 mX13_isFrom 0 [some (vR (some ar0)), some (vI x4), some (vI x5), none, none, none] [] h n (fun v h1 n1 => Rn (d + 1) bc bs mX13_tossed 42 [some (vR (some ar0)), some (vI x1), some (vI x2), some (vI x3), some (vI x4), some (vI x5)] (v.toList ++ []) h1 n1 Q)) : Rn (d + 1) (bc) (bs) mX13_tossed 34 [some (vR (some ar0)), some (vI x1), some (vI x2), some (vI x3), some (vI x4), some (vI x5)] [] h n Q := by
  refine Rn_aload_n dX13_tossed_34 rfl rfl rfl ?_
  refine Rn_iload dX13_tossed_35 rfl ?_
  refine Rn_iload dX13_tossed_37 rfl ?_
  exact Rn_callV (ci := 13) (avs := [vI x4, vI x5]) (st := []) (bc1 := 0) (bs1 := 0) (bc2 := bc) (bs2 := bs) fx_X13_isFrom dX13_tossed_39 wd_1919 wd_1921 wd_113 rfl h2 rfl (Nat.le_of_ble_eq_true rfl) (Nat.le_of_ble_eq_true rfl) (by omega) (by omega) (ls1 := [some (vR (some ar0)), some (vI x4), some (vI x5), none, none, none]) rfl k
theorem BX13_tossed_42 {d bc bs : Nat} {h : aH} {n : Nat} {Q : aQ} {r0 : Option Nat} {x1 x2 x3 x4 x5 s0 : Int} (kt : s0 ≠ 0 → Rn d bc bs mX13_tossed 48 [some (vR r0), some (vI x1), some (vI x2), some (vI x3), some (vI x4), some (vI x5)] [] h n Q) (kf : s0 = 0 → Rn d bc bs mX13_tossed 45 [some (vR r0), some (vI x1), some (vI x2), some (vI x3), some (vI x4), some (vI x5)] [] h n Q) : Rn d (bc) (bs) mX13_tossed 42 [some (vR r0), some (vI x1), some (vI x2), some (vI x3), some (vI x4), some (vI x5)] [vI s0] h n Q := by
  refine Rn_ifne (tgt := 48) dX13_tossed_42 rfl ?_ ?_
  · exact kt
  · exact kf
theorem BX13_tossed_45 {d bc bs : Nat} {h : aH} {n : Nat} {Q : aQ} {r0 : Option Nat} {x1 x2 x3 x4 x5 : Int} (b1 : -2147483648 ≤ x5 + 1 ∧ x5 + 1 < 2147483648) (k : Rn d bc bs mX13_tossed 28 [some (vR r0), some (vI x1), some (vI x2), some (vI x3), some (vI x4), some (vI (x5 + 1))] [] h n Q) : Rn d (bc) (bs) mX13_tossed 45 [some (vR r0), some (vI x1), some (vI x2), some (vI x3), some (vI x4), some (vI x5)] [] h n Q := by
  refine Rn_goto (tgt := 58) dX13_tossed_45 rfl ?_
  refine Rn_iinc dX13_tossed_58 rfl (Nat.le_of_ble_eq_true rfl) rfl rfl rfl ?_
  rw [w32_id b1.1 b1.2]
  refine Rn_goto (tgt := 28) dX13_tossed_61 rfl ?_
  exact k
theorem BX13_tossed_48 {d bc bs : Nat} {h : aH} {n : Nat} {Q : aQ} {r0 : Option Nat} {x1 x2 x3 x4 x5 : Int} (b1 : -2147483648 ≤ x3 + 1 ∧ x3 + 1 < 2147483648) (b2 : -2147483648 ≤ x5 + 1 ∧ x5 + 1 < 2147483648) (k : Rn d bc bs mX13_tossed 28 [some (vR r0), some (vI x1), some (vI (or32 x2 (shl32 1 x4))), some (vI (x3 + 1)), some (vI x4), some (vI (x5 + 1))] [] h n Q) : Rn d (bc) (bs) mX13_tossed 48 [some (vR r0), some (vI x1), some (vI x2), some (vI x3), some (vI x4), some (vI x5)] [] h n Q := by
  refine Rn_iload_n dX13_tossed_48 rfl rfl ?_
  refine Rn_iconst dX13_tossed_49 rfl ?_
  refine Rn_iload dX13_tossed_50 rfl ?_
  refine Rn_ishl dX13_tossed_52 ?_
  refine Rn_ior dX13_tossed_53 ?_
  refine Rn_istore_n dX13_tossed_54 rfl (Nat.le_of_ble_eq_true rfl) rfl rfl ?_
  refine Rn_iinc dX13_tossed_55 rfl (Nat.le_of_ble_eq_true rfl) rfl rfl rfl ?_
  rw [w32_id b1.1 b1.2]
  refine Rn_iinc dX13_tossed_58 rfl (Nat.le_of_ble_eq_true rfl) rfl rfl rfl ?_
  rw [w32_id b2.1 b2.2]
  refine Rn_goto (tgt := 28) dX13_tossed_61 rfl ?_
  exact k
theorem BX13_tossed_64 {d bc bs : Nat} {h : aH} {n : Nat} {Q : aQ} {r0 : Option Nat} {x1 x2 x3 x4 x5 : Int} (b1 : -2147483648 ≤ x4 + 1 ∧ x4 + 1 < 2147483648) (k : Rn d bc bs mX13_tossed 18 [some (vR r0), some (vI x1), some (vI x2), some (vI x3), some (vI (x4 + 1)), some (vI x5)] [] h n Q) : Rn d (bc) (bs) mX13_tossed 64 [some (vR r0), some (vI x1), some (vI x2), some (vI x3), some (vI x4), some (vI x5)] [] h n Q := by
  refine Rn_iinc dX13_tossed_64 rfl (Nat.le_of_ble_eq_true rfl) rfl rfl rfl ?_
  rw [w32_id b1.1 b1.2]
  refine Rn_goto (tgt := 18) dX13_tossed_67 rfl ?_
  exact k
theorem BX13_tossed_70 {d bc bs : Nat} {h : aH} {n : Nat} {Q : aQ} {r0 : Option Nat} {x1 x2 x3 x4 : Int} {l5 : Option aV} (kt : x1 ≠ 0 → Rn d bc bs mX13_tossed 78 [some (vR r0), some (vI x1), some (vI x2), some (vI x3), some (vI x4), l5] [] h n Q) (kf : x1 = 0 → Rn d bc bs mX13_tossed 74 [some (vR r0), some (vI x1), some (vI x2), some (vI x3), some (vI x4), l5] [] h n Q) : Rn d (bc) (bs) mX13_tossed 70 [some (vR r0), some (vI x1), some (vI x2), some (vI x3), some (vI x4), l5] [] h n Q := by
  refine Rn_iload_n dX13_tossed_70 rfl rfl ?_
  refine Rn_ifne (tgt := 78) dX13_tossed_71 rfl ?_ ?_
  · exact kt
  · exact kf
theorem BX13_tossed_74 {d bc bs : Nat} {h : aH} {n : Nat} {Q : aQ} {r0 : Option Nat} {x1 x2 x3 x4 : Int} {l5 : Option aV} (k : Q (some (vI x2)) h n) : Rn d (bc) (bs) mX13_tossed 74 [some (vR r0), some (vI x1), some (vI x2), some (vI x3), some (vI x4), l5] [] h n Q := by
  refine Rn_iload_n dX13_tossed_74 rfl rfl ?_
  refine Rn_goto (tgt := 79) dX13_tossed_75 rfl ?_
  exact Rn_ireturn rfl dX13_tossed_79 k
theorem BX13_tossed_78 {d bc bs : Nat} {h : aH} {n : Nat} {Q : aQ} {r0 : Option Nat} {x1 x2 x3 x4 : Int} {l5 : Option aV} (k : Q (some (vI x3)) h n) : Rn d (bc) (bs) mX13_tossed 78 [some (vR r0), some (vI x1), some (vI x2), some (vI x3), some (vI x4), l5] [] h n Q := by
  refine Rn_iload_n dX13_tossed_78 rfl rfl ?_
  exact Rn_ireturn rfl dX13_tossed_79 k
theorem dX13_odds_0 : decode cX13_odds 0 = .ok (.iload_n 1, 1) := by decide +kernel
theorem dX13_odds_1 : decode cX13_odds 1 = .ok (.iconst 0, 1) := by decide +kernel
theorem dX13_odds_2 : decode cX13_odds 2 = .ok (.bipush 10, 2) := by decide +kernel
theorem dX13_odds_4 : decode cX13_odds 4 = .ok (.invokestatic 72, 3) := by decide +kernel
theorem dX13_odds_7 : decode cX13_odds 7 = .ok (.ifCond .eq 21, 3) := by decide +kernel
theorem dX13_odds_10 : decode cX13_odds 10 = .ok (.iload_n 2, 1) := by decide +kernel
theorem dX13_odds_11 : decode cX13_odds 11 = .ok (.iconst 0, 1) := by decide +kernel
theorem dX13_odds_12 : decode cX13_odds 12 = .ok (.bipush 10, 2) := by decide +kernel
theorem dX13_odds_14 : decode cX13_odds 14 = .ok (.invokestatic 72, 3) := by decide +kernel
theorem dX13_odds_17 : decode cX13_odds 17 = .ok (.ifCond .eq 11, 3) := by decide +kernel
theorem dX13_odds_20 : decode cX13_odds 20 = .ok (.iload_n 1, 1) := by decide +kernel
theorem dX13_odds_21 : decode cX13_odds 21 = .ok (.iload_n 2, 1) := by decide +kernel
theorem dX13_odds_22 : decode cX13_odds 22 = .ok (.iadd, 1) := by decide +kernel
theorem dX13_odds_23 : decode cX13_odds 23 = .ok (.bipush 10, 2) := by decide +kernel
theorem dX13_odds_25 : decode cX13_odds 25 = .ok (.if_icmp .le 5, 3) := by decide +kernel
theorem dX13_odds_28 : decode cX13_odds 28 = .ok (.iconst 0, 1) := by decide +kernel
theorem dX13_odds_29 : decode cX13_odds 29 = .ok (.ireturn, 1) := by decide +kernel
theorem dX13_odds_30 : decode cX13_odds 30 = .ok (.aload_n 0, 1) := by decide +kernel
theorem dX13_odds_31 : decode cX13_odds 31 = .ok (.getfield 7, 3) := by decide +kernel
theorem dX13_odds_34 : decode cX13_odds 34 = .ok (.sipush 145, 3) := by decide +kernel
theorem dX13_odds_37 : decode cX13_odds 37 = .ok (.iload_n 1, 1) := by decide +kernel
theorem dX13_odds_38 : decode cX13_odds 38 = .ok (.iastore, 1) := by decide +kernel
theorem dX13_odds_39 : decode cX13_odds 39 = .ok (.aload_n 0, 1) := by decide +kernel
theorem dX13_odds_40 : decode cX13_odds 40 = .ok (.getfield 7, 3) := by decide +kernel
theorem dX13_odds_43 : decode cX13_odds 43 = .ok (.sipush 146, 3) := by decide +kernel
theorem dX13_odds_46 : decode cX13_odds 46 = .ok (.iload_n 2, 1) := by decide +kernel
theorem dX13_odds_47 : decode cX13_odds 47 = .ok (.iastore, 1) := by decide +kernel
theorem dX13_odds_48 : decode cX13_odds 48 = .ok (.iconst 1, 1) := by decide +kernel
theorem dX13_odds_49 : decode cX13_odds 49 = .ok (.ireturn, 1) := by decide +kernel
theorem BX13_odds_0 {d bc bs : Nat} {h : aH} {n : Nat} {Q : aQ} {r0 : Option Nat} {x1 x2 : Int} (k : Rn d 0 0 mX13_isIn 0 [some (vI x1), some (vI 0), some (vI 10)] [] h n (fun v h1 n1 => Rn (d + 1) bc bs mX13_odds 7 [some (vR r0), some (vI x1), some (vI x2)] (v.toList ++ []) h1 n1 Q)) : Rn (d + 1) (bc) (bs) mX13_odds 0 [some (vR r0), some (vI x1), some (vI x2)] [] h n Q := by
  refine Rn_iload_n dX13_odds_0 rfl rfl ?_
  refine Rn_iconst dX13_odds_1 rfl ?_
  refine Rn_bipush dX13_odds_2 rfl ?_
  exact Rn_callS (avs := [vI x1, vI 0, vI 10]) (st := []) (bc1 := 0) (bs1 := 0) (bc2 := bc) (bs2 := bs) fx_X13_isIn dX13_odds_4 (Or.inl wd_1463) wd_1464 rfl (Nat.le_of_ble_eq_true rfl) (Nat.le_of_ble_eq_true rfl) (by omega) (by omega) (ls1 := [some (vI x1), some (vI 0), some (vI 10)]) rfl k
theorem BX13_odds_7 {d bc bs : Nat} {h : aH} {n : Nat} {Q : aQ} {r0 : Option Nat} {x1 x2 s0 : Int} (kt : s0 = 0 → Rn d bc bs mX13_odds 28 [some (vR r0), some (vI x1), some (vI x2)] [] h n Q) (kf : s0 ≠ 0 → Rn d bc bs mX13_odds 10 [some (vR r0), some (vI x1), some (vI x2)] [] h n Q) : Rn d (bc) (bs) mX13_odds 7 [some (vR r0), some (vI x1), some (vI x2)] [vI s0] h n Q := by
  refine Rn_ifeq (tgt := 28) dX13_odds_7 rfl ?_ ?_
  · exact kt
  · exact kf
theorem BX13_odds_10 {d bc bs : Nat} {h : aH} {n : Nat} {Q : aQ} {r0 : Option Nat} {x1 x2 : Int} (k : Rn d 0 0 mX13_isIn 0 [some (vI x2), some (vI 0), some (vI 10)] [] h n (fun v h1 n1 => Rn (d + 1) bc bs mX13_odds 17 [some (vR r0), some (vI x1), some (vI x2)] (v.toList ++ []) h1 n1 Q)) : Rn (d + 1) (bc) (bs) mX13_odds 10 [some (vR r0), some (vI x1), some (vI x2)] [] h n Q := by
  refine Rn_iload_n dX13_odds_10 rfl rfl ?_
  refine Rn_iconst dX13_odds_11 rfl ?_
  refine Rn_bipush dX13_odds_12 rfl ?_
  exact Rn_callS (avs := [vI x2, vI 0, vI 10]) (st := []) (bc1 := 0) (bs1 := 0) (bc2 := bc) (bs2 := bs) fx_X13_isIn dX13_odds_14 (Or.inl wd_1463) wd_1464 rfl (Nat.le_of_ble_eq_true rfl) (Nat.le_of_ble_eq_true rfl) (by omega) (by omega) (ls1 := [some (vI x2), some (vI 0), some (vI 10)]) rfl k
theorem BX13_odds_17 {d bc bs : Nat} {h : aH} {n : Nat} {Q : aQ} {r0 : Option Nat} {x1 x2 s0 : Int} (kt : s0 = 0 → Rn d bc bs mX13_odds 28 [some (vR r0), some (vI x1), some (vI x2)] [] h n Q) (kf : s0 ≠ 0 → Rn d bc bs mX13_odds 20 [some (vR r0), some (vI x1), some (vI x2)] [] h n Q) : Rn d (bc) (bs) mX13_odds 17 [some (vR r0), some (vI x1), some (vI x2)] [vI s0] h n Q := by
  refine Rn_ifeq (tgt := 28) dX13_odds_17 rfl ?_ ?_
  · exact kt
  · exact kf
theorem BX13_odds_20 {d bc bs : Nat} {h : aH} {n : Nat} {Q : aQ} {r0 : Option Nat} {x1 x2 : Int} (b1 : -2147483648 ≤ x1 + x2 ∧ x1 + x2 < 2147483648) (kt : (x1 + x2) ≤ 10 → Rn d bc bs mX13_odds 30 [some (vR r0), some (vI x1), some (vI x2)] [] h n Q) (kf : 10 < (x1 + x2) → Rn d bc bs mX13_odds 28 [some (vR r0), some (vI x1), some (vI x2)] [] h n Q) : Rn d (bc) (bs) mX13_odds 20 [some (vR r0), some (vI x1), some (vI x2)] [] h n Q := by
  refine Rn_iload_n dX13_odds_20 rfl rfl ?_
  refine Rn_iload_n dX13_odds_21 rfl rfl ?_
  refine Rn_iadd dX13_odds_22 ?_
  rw [w32_id b1.1 b1.2]
  refine Rn_bipush dX13_odds_23 rfl ?_
  refine Rn_icmple (tgt := 30) dX13_odds_25 rfl ?_ ?_
  · exact kt
  · exact kf
theorem BX13_odds_28 {d bc bs : Nat} {h : aH} {n : Nat} {Q : aQ} {r0 : Option Nat} {x1 x2 : Int} (k : Q (some (vI 0)) h n) : Rn d (bc) (bs) mX13_odds 28 [some (vR r0), some (vI x1), some (vI x2)] [] h n Q := by
  refine Rn_iconst dX13_odds_28 rfl ?_
  exact Rn_zreturn rfl dX13_odds_29 (by decide) k
theorem BX13_odds_30 {d bc bs : Nat} {h : aH} {n : Nat} {Q : aQ} {ar0 at3 : Nat} {x1 x2 : Int} {f1 : List aV} {w5 : List Int} (h2 : h ar0 = cO 13 f1) (g4 : f1[0]? = some (vR (some at3))) (h6 : h at3 = cI w5) (j7 : (145 : Int) < w5.length) (z8 : at3 ≠ 0) (k : Rn d bc bs mX13_odds 39 [some (vR (some ar0)), some (vI x1), some (vI x2)] [] (up h at3 (cI (w5.set (145 : Int).toNat x1))) n Q) : Rn d (bc) (bs) mX13_odds 30 [some (vR (some ar0)), some (vI x1), some (vI x2)] [] h n Q := by
  refine Rn_aload_n dX13_odds_30 rfl rfl rfl ?_
  refine Rn_getfield (ci := 13) (k := 0) dX13_odds_31 rfl in_13 (Nat.le_of_ble_eq_true rfl) wd_1352 rfl h2 g4 ?_
  refine Rn_sipush dX13_odds_34 rfl ?_
  refine Rn_iload_n dX13_odds_37 rfl rfl ?_
  refine Rn_iastore dX13_odds_38 z8 h6 (by decide) j7 ?_
  exact k
theorem BX13_odds_39 {d bc bs : Nat} {h : aH} {n : Nat} {Q : aQ} {ar0 at3 : Nat} {x1 x2 : Int} {f1 : List aV} {w5 : List Int} (h2 : h ar0 = cO 13 f1) (g4 : f1[0]? = some (vR (some at3))) (h6 : h at3 = cI w5) (j7 : (146 : Int) < w5.length) (z8 : at3 ≠ 0) (k : Rn d bc bs mX13_odds 48 [some (vR (some ar0)), some (vI x1), some (vI x2)] [] (up h at3 (cI (w5.set (146 : Int).toNat x2))) n Q) : Rn d (bc) (bs) mX13_odds 39 [some (vR (some ar0)), some (vI x1), some (vI x2)] [] h n Q := by
  refine Rn_aload_n dX13_odds_39 rfl rfl rfl ?_
  refine Rn_getfield (ci := 13) (k := 0) dX13_odds_40 rfl in_13 (Nat.le_of_ble_eq_true rfl) wd_1352 rfl h2 g4 ?_
  refine Rn_sipush dX13_odds_43 rfl ?_
  refine Rn_iload_n dX13_odds_46 rfl rfl ?_
  refine Rn_iastore dX13_odds_47 z8 h6 (by decide) j7 ?_
  exact k
theorem BX13_odds_48 {d bc bs : Nat} {h : aH} {n : Nat} {Q : aQ} {r0 : Option Nat} {x1 x2 : Int} (k : Q (some (vI 1)) h n) : Rn d (bc) (bs) mX13_odds 48 [some (vR r0), some (vI x1), some (vI x2)] [] h n Q := by
  refine Rn_iconst dX13_odds_48 rfl ?_
  exact Rn_zreturn rfl dX13_odds_49 (by decide) k
theorem dX13_divisor_0 : decode cX13_divisor 0 = .ok (.lload_n 0, 1) := by decide +kernel
theorem dX13_divisor_1 : decode cX13_divisor 1 = .ok (.lstore 4, 2) := by decide +kernel
theorem dX13_divisor_3 : decode cX13_divisor 3 = .ok (.lload_n 2, 1) := by decide +kernel
theorem dX13_divisor_4 : decode cX13_divisor 4 = .ok (.lstore 6, 2) := by decide +kernel
theorem dX13_divisor_6 : decode cX13_divisor 6 = .ok (.lload 6, 2) := by decide +kernel
theorem dX13_divisor_8 : decode cX13_divisor 8 = .ok (.lconst 0, 1) := by decide +kernel
theorem dX13_divisor_9 : decode cX13_divisor 9 = .ok (.lcmp, 1) := by decide +kernel
theorem dX13_divisor_10 : decode cX13_divisor 10 = .ok (.ifCond .eq 21, 3) := by decide +kernel
theorem dX13_divisor_13 : decode cX13_divisor 13 = .ok (.lload 4, 2) := by decide +kernel
theorem dX13_divisor_15 : decode cX13_divisor 15 = .ok (.lload 6, 2) := by decide +kernel
theorem dX13_divisor_17 : decode cX13_divisor 17 = .ok (.lrem, 1) := by decide +kernel
theorem dX13_divisor_18 : decode cX13_divisor 18 = .ok (.lstore 8, 2) := by decide +kernel
theorem dX13_divisor_20 : decode cX13_divisor 20 = .ok (.lload 6, 2) := by decide +kernel
theorem dX13_divisor_22 : decode cX13_divisor 22 = .ok (.lstore 4, 2) := by decide +kernel
theorem dX13_divisor_24 : decode cX13_divisor 24 = .ok (.lload 8, 2) := by decide +kernel
theorem dX13_divisor_26 : decode cX13_divisor 26 = .ok (.lstore 6, 2) := by decide +kernel
theorem dX13_divisor_28 : decode cX13_divisor 28 = .ok (.goto (-22), 3) := by decide +kernel
theorem dX13_divisor_31 : decode cX13_divisor 31 = .ok (.lload 4, 2) := by decide +kernel
theorem dX13_divisor_33 : decode cX13_divisor 33 = .ok (.lreturn, 1) := by decide +kernel
theorem BX13_divisor_0 {d bc bs : Nat} {h : aH} {n : Nat} {Q : aQ} {x0 x2 : Int} {l4 l5 l6 l7 l8 l9 : Option aV} (k : Rn d bc bs mX13_divisor 6 [some (vL x0), none, some (vL x2), none, some (vL x0), none, some (vL x2), none, l8, l9] [] h n Q) : Rn d (bc) (bs) mX13_divisor 0 [some (vL x0), none, some (vL x2), none, l4, l5, l6, l7, l8, l9] [] h n Q := by
  refine Rn_lload_n dX13_divisor_0 rfl rfl ?_
  refine Rn_lstore dX13_divisor_1 (Nat.le_of_ble_eq_true rfl) rfl rfl ?_
  refine Rn_lload_n dX13_divisor_3 rfl rfl ?_
  refine Rn_lstore dX13_divisor_4 (Nat.le_of_ble_eq_true rfl) rfl rfl ?_
  exact k
theorem BX13_divisor_6 {d bc bs : Nat} {h : aH} {n : Nat} {Q : aQ} {x0 x2 x4 x6 : Int} {l8 l9 : Option aV} (kt : x6 = 0 → Rn d bc bs mX13_divisor 31 [some (vL x0), none, some (vL x2), none, some (vL x4), none, some (vL x6), none, l8, l9] [] h n Q) (kf : x6 ≠ 0 → Rn d bc bs mX13_divisor 13 [some (vL x0), none, some (vL x2), none, some (vL x4), none, some (vL x6), none, l8, l9] [] h n Q) : Rn d (bc) (bs) mX13_divisor 6 [some (vL x0), none, some (vL x2), none, some (vL x4), none, some (vL x6), none, l8, l9] [] h n Q := by
  refine Rn_lload dX13_divisor_6 rfl ?_
  refine Rn_lconst (x := 0) dX13_divisor_8 rfl ?_
  refine Rn_lcmp dX13_divisor_9 ?_
  refine Rn_ifeq (tgt := 31) dX13_divisor_10 rfl ?_ ?_
  · exact fun q => kt (lc_eq q)
  · exact fun q => kf (lc_ne q)
theorem BX13_divisor_13 {d bc bs : Nat} {h : aH} {n : Nat} {Q : aQ} {x0 x2 x4 x6 : Int} {l8 l9 : Option aV} (e1 : ¬ x6 = 0) (k : Rn d bc bs mX13_divisor 6 [some (vL x0), none, some (vL x2), none, some (vL x6), none, some (vL (Int.tmod x4 x6)), none, some (vL (Int.tmod x4 x6)), none] [] h n Q) : Rn d (bc) (bs) mX13_divisor 13 [some (vL x0), none, some (vL x2), none, some (vL x4), none, some (vL x6), none, l8, l9] [] h n Q := by
  refine Rn_lload dX13_divisor_13 rfl ?_
  refine Rn_lload dX13_divisor_15 rfl ?_
  refine Rn_lrem dX13_divisor_17 e1 ?_
  refine Rn_lstore dX13_divisor_18 (Nat.le_of_ble_eq_true rfl) rfl rfl ?_
  refine Rn_lload dX13_divisor_20 rfl ?_
  refine Rn_lstore dX13_divisor_22 (Nat.le_of_ble_eq_true rfl) rfl rfl ?_
  refine Rn_lload dX13_divisor_24 rfl ?_
  refine Rn_lstore dX13_divisor_26 (Nat.le_of_ble_eq_true rfl) rfl rfl ?_
  refine Rn_goto (tgt := 6) dX13_divisor_28 rfl ?_
  exact k
theorem BX13_divisor_31 {d bc bs : Nat} {h : aH} {n : Nat} {Q : aQ} {x0 x2 x4 x6 : Int} {l8 l9 : Option aV} (k : Q (some (vL x4)) h n) : Rn d (bc) (bs) mX13_divisor 31 [some (vL x0), none, some (vL x2), none, some (vL x4), none, some (vL x6), none, l8, l9] [] h n Q := by
  refine Rn_lload dX13_divisor_31 rfl ?_
  exact Rn_lreturn rfl dX13_divisor_33 k
theorem dX13_likely_0 : decode cX13_likely 0 = .ok (.iload_n 1, 1) := by decide +kernel
theorem dX13_likely_1 : decode cX13_likely 1 = .ok (.invokestatic 84, 3) := by decide +kernel
theorem dX13_likely_4 : decode cX13_likely 4 = .ok (.ifCond .eq 21, 3) := by decide +kernel
theorem dX13_likely_7 : decode cX13_likely 7 = .ok (.aload_n 0, 1) := by decide +kernel
theorem dX13_likely_8 : decode cX13_likely 8 = .ok (.iload_n 2, 1) := by decide +kernel
theorem dX13_likely_9 : decode cX13_likely 9 = .ok (.invokevirtual 343, 3) := by decide +kernel
theorem dX13_likely_12 : decode cX13_likely 12 = .ok (.ifCond .eq 13, 3) := by decide +kernel
theorem dX13_likely_15 : decode cX13_likely 15 = .ok (.iload_n 3, 1) := by decide +kernel
theorem dX13_likely_16 : decode cX13_likely 16 = .ok (.iconst 1, 1) := by decide +kernel
theorem dX13_likely_17 : decode cX13_likely 17 = .ok (.bipush 8, 2) := by decide +kernel
theorem dX13_likely_19 : decode cX13_likely 19 = .ok (.invokestatic 72, 3) := by decide +kernel
theorem dX13_likely_22 : decode cX13_likely 22 = .ok (.ifCond .ne 7, 3) := by decide +kernel
theorem dX13_likely_25 : decode cX13_likely 25 = .ok (.ldc2_w 438, 3) := by decide +kernel
theorem dX13_likely_28 : decode cX13_likely 28 = .ok (.lreturn, 1) := by decide +kernel
theorem dX13_likely_29 : decode cX13_likely 29 = .ok (.iload_n 1, 1) := by decide +kernel
theorem dX13_likely_30 : decode cX13_likely 30 = .ok (.istore 5, 2) := by decide +kernel
theorem dX13_likely_32 : decode cX13_likely 32 = .ok (.lconst 1, 1) := by decide +kernel
theorem dX13_likely_33 : decode cX13_likely 33 = .ok (.lstore 6, 2) := by decide +kernel
theorem dX13_likely_35 : decode cX13_likely 35 = .ok (.lconst 0, 1) := by decide +kernel
theorem dX13_likely_36 : decode cX13_likely 36 = .ok (.lstore 8, 2) := by decide +kernel
theorem dX13_likely_38 : decode cX13_likely 38 = .ok (.lconst 1, 1) := by decide +kernel
theorem dX13_likely_39 : decode cX13_likely 39 = .ok (.lstore 10, 2) := by decide +kernel
theorem dX13_likely_41 : decode cX13_likely 41 = .ok (.iconst 0, 1) := by decide +kernel
theorem dX13_likely_42 : decode cX13_likely 42 = .ok (.istore 12, 2) := by decide +kernel
theorem dX13_likely_44 : decode cX13_likely 44 = .ok (.iload 12, 2) := by decide +kernel
theorem dX13_likely_46 : decode cX13_likely 46 = .ok (.iload_n 3, 1) := by decide +kernel
theorem dX13_likely_47 : decode cX13_likely 47 = .ok (.if_icmp .ge 118, 3) := by decide +kernel
theorem dX13_likely_50 : decode cX13_likely 50 = .ok (.aload_n 0, 1) := by decide +kernel
theorem dX13_likely_51 : decode cX13_likely 51 = .ok (.aload_n 0, 1) := by decide +kernel
theorem dX13_likely_52 : decode cX13_likely 52 = .ok (.getfield 7, 3) := by decide +kernel
theorem dX13_likely_55 : decode cX13_likely 55 = .ok (.bipush 7, 2) := by decide +kernel
theorem dX13_likely_57 : decode cX13_likely 57 = .ok (.iaload, 1) := by decide +kernel
theorem dX13_likely_58 : decode cX13_likely 58 = .ok (.iload 12, 2) := by decide +kernel
theorem dX13_likely_60 : decode cX13_likely 60 = .ok (.iadd, 1) := by decide +kernel
theorem dX13_likely_61 : decode cX13_likely 61 = .ok (.iload 5, 2) := by decide +kernel
theorem dX13_likely_63 : decode cX13_likely 63 = .ok (.invokevirtual 325, 3) := by decide +kernel
theorem dX13_likely_66 : decode cX13_likely 66 = .ok (.istore 5, 2) := by decide +kernel
theorem dX13_likely_68 : decode cX13_likely 68 = .ok (.iload 5, 2) := by decide +kernel
theorem dX13_likely_70 : decode cX13_likely 70 = .ok (.aload_n 0, 1) := by decide +kernel
theorem dX13_likely_71 : decode cX13_likely 71 = .ok (.iload_n 2, 1) := by decide +kernel
theorem dX13_likely_72 : decode cX13_likely 72 = .ok (.iconst 0, 1) := by decide +kernel
theorem dX13_likely_73 : decode cX13_likely 73 = .ok (.invokevirtual 267, 3) := by decide +kernel
theorem dX13_likely_76 : decode cX13_likely 76 = .ok (.if_icmp .ne 7, 3) := by decide +kernel
theorem dX13_likely_79 : decode cX13_likely 79 = .ok (.iconst 1, 1) := by decide +kernel
theorem dX13_likely_80 : decode cX13_likely 80 = .ok (.goto 4, 3) := by decide +kernel
theorem dX13_likely_83 : decode cX13_likely 83 = .ok (.iconst 0, 1) := by decide +kernel
theorem dX13_likely_84 : decode cX13_likely 84 = .ok (.istore 13, 2) := by decide +kernel
theorem dX13_likely_86 : decode cX13_likely 86 = .ok (.ldc2_w 440, 3) := by decide +kernel
theorem dX13_likely_89 : decode cX13_likely 89 = .ok (.lload 8, 2) := by decide +kernel
theorem dX13_likely_91 : decode cX13_likely 91 = .ok (.lmul, 1) := by decide +kernel
theorem dX13_likely_92 : decode cX13_likely 92 = .ok (.iload 13, 2) := by decide +kernel
theorem dX13_likely_94 : decode cX13_likely 94 = .ok (.ifCond .eq 18, 3) := by decide +kernel
theorem dX13_likely_97 : decode cX13_likely 97 = .ok (.lload 6, 2) := by decide +kernel
theorem dX13_likely_99 : decode cX13_likely 99 = .ok (.aload_n 0, 1) := by decide +kernel
theorem dX13_likely_100 : decode cX13_likely 100 = .ok (.getfield 7, 3) := by decide +kernel
theorem dX13_likely_103 : decode cX13_likely 103 = .ok (.sipush 145, 3) := by decide +kernel
theorem dX13_likely_106 : decode cX13_likely 106 = .ok (.iaload, 1) := by decide +kernel
theorem dX13_likely_107 : decode cX13_likely 107 = .ok (.i2l, 1) := by decide +kernel
theorem dX13_likely_108 : decode cX13_likely 108 = .ok (.lmul, 1) := by decide +kernel
theorem dX13_likely_109 : decode cX13_likely 109 = .ok (.goto 4, 3) := by decide +kernel
theorem dX13_likely_112 : decode cX13_likely 112 = .ok (.lconst 0, 1) := by decide +kernel
theorem dX13_likely_113 : decode cX13_likely 113 = .ok (.ladd, 1) := by decide +kernel
theorem dX13_likely_114 : decode cX13_likely 114 = .ok (.lstore 8, 2) := by decide +kernel
theorem dX13_likely_116 : decode cX13_likely 116 = .ok (.lload 6, 2) := by decide +kernel
theorem dX13_likely_118 : decode cX13_likely 118 = .ok (.bipush 10, 2) := by decide +kernel
theorem dX13_likely_120 : decode cX13_likely 120 = .ok (.aload_n 0, 1) := by decide +kernel
theorem dX13_likely_121 : decode cX13_likely 121 = .ok (.getfield 7, 3) := by decide +kernel
theorem dX13_likely_124 : decode cX13_likely 124 = .ok (.sipush 146, 3) := by decide +kernel
theorem dX13_likely_127 : decode cX13_likely 127 = .ok (.iaload, 1) := by decide +kernel
theorem dX13_likely_128 : decode cX13_likely 128 = .ok (.isub, 1) := by decide +kernel
theorem dX13_likely_129 : decode cX13_likely 129 = .ok (.iload 13, 2) := by decide +kernel
theorem dX13_likely_131 : decode cX13_likely 131 = .ok (.ifCond .eq 14, 3) := by decide +kernel
theorem dX13_likely_134 : decode cX13_likely 134 = .ok (.aload_n 0, 1) := by decide +kernel
theorem dX13_likely_135 : decode cX13_likely 135 = .ok (.getfield 7, 3) := by decide +kernel
theorem dX13_likely_138 : decode cX13_likely 138 = .ok (.sipush 145, 3) := by decide +kernel
theorem dX13_likely_141 : decode cX13_likely 141 = .ok (.iaload, 1) := by decide +kernel
theorem dX13_likely_142 : decode cX13_likely 142 = .ok (.goto 4, 3) := by decide +kernel
theorem dX13_likely_145 : decode cX13_likely 145 = .ok (.iconst 0, 1) := by decide +kernel
theorem dX13_likely_146 : decode cX13_likely 146 = .ok (.isub, 1) := by decide +kernel
theorem dX13_likely_147 : decode cX13_likely 147 = .ok (.i2l, 1) := by decide +kernel
theorem dX13_likely_148 : decode cX13_likely 148 = .ok (.lmul, 1) := by decide +kernel
theorem dX13_likely_149 : decode cX13_likely 149 = .ok (.lstore 6, 2) := by decide +kernel
theorem dX13_likely_151 : decode cX13_likely 151 = .ok (.lload 10, 2) := by decide +kernel
theorem dX13_likely_153 : decode cX13_likely 153 = .ok (.ldc2_w 440, 3) := by decide +kernel
theorem dX13_likely_156 : decode cX13_likely 156 = .ok (.lmul, 1) := by decide +kernel
theorem dX13_likely_157 : decode cX13_likely 157 = .ok (.lstore 10, 2) := by decide +kernel
theorem dX13_likely_159 : decode cX13_likely 159 = .ok (.iinc 12 1, 3) := by decide +kernel
theorem dX13_likely_162 : decode cX13_likely 162 = .ok (.goto (-118), 3) := by decide +kernel
theorem dX13_likely_165 : decode cX13_likely 165 = .ok (.iload 4, 2) := by decide +kernel
theorem dX13_likely_167 : decode cX13_likely 167 = .ok (.ifCond .eq 8, 3) := by decide +kernel
theorem dX13_likely_170 : decode cX13_likely 170 = .ok (.lload 10, 2) := by decide +kernel
theorem dX13_likely_172 : decode cX13_likely 172 = .ok (.goto 5, 3) := by decide +kernel
theorem dX13_likely_175 : decode cX13_likely 175 = .ok (.lload 8, 2) := by decide +kernel
theorem dX13_likely_177 : decode cX13_likely 177 = .ok (.lload 8, 2) := by decide +kernel
theorem dX13_likely_179 : decode cX13_likely 179 = .ok (.lload 10, 2) := by decide +kernel
theorem dX13_likely_181 : decode cX13_likely 181 = .ok (.invokestatic 442, 3) := by decide +kernel
theorem dX13_likely_184 : decode cX13_likely 184 = .ok (.ldiv, 1) := by decide +kernel
theorem dX13_likely_185 : decode cX13_likely 185 = .ok (.lreturn, 1) := by decide +kernel
theorem BX13_likely_0 {d bc bs : Nat} {h : aH} {n : Nat} {Q : aQ} {r0 : Option Nat} {x1 x2 x3 x4 : Int} {l5 l6 l7 l8 l9 l10 l11 l12 l13 : Option aV} (k : Rn d 0 0 mX13_isPlace 0 [some (vI x1)] [] h n (fun v h1 n1 => Rn (d + 1) bc bs mX13_likely 4 [some (vR r0), some (vI x1), some (vI x2), some (vI x3), some (vI x4), l5, l6, l7, l8, l9, l10, l11, l12, l13] (v.toList ++ []) h1 n1 Q)) : Rn (d + 1) (bc) (bs) mX13_likely 0 [some (vR r0), some (vI x1), some (vI x2), some (vI x3), some (vI x4), l5, l6, l7, l8, l9, l10, l11, l12, l13] [] h n Q := by
  refine Rn_iload_n dX13_likely_0 rfl rfl ?_
  exact Rn_callS (avs := [vI x1]) (st := []) (bc1 := 0) (bs1 := 0) (bc2 := bc) (bs2 := bs) fx_X13_isPlace dX13_likely_1 (Or.inl wd_1460) wd_1461 rfl (Nat.le_of_ble_eq_true rfl) (Nat.le_of_ble_eq_true rfl) (by omega) (by omega) (ls1 := [some (vI x1)]) rfl k
theorem BX13_likely_4 {d bc bs : Nat} {h : aH} {n : Nat} {Q : aQ} {r0 : Option Nat} {x1 x2 x3 x4 s0 : Int} {l5 l6 l7 l8 l9 l10 l11 l12 l13 : Option aV} (kt : s0 = 0 → Rn d bc bs mX13_likely 25 [some (vR r0), some (vI x1), some (vI x2), some (vI x3), some (vI x4), l5, l6, l7, l8, l9, l10, l11, l12, l13] [] h n Q) (kf : s0 ≠ 0 → Rn d bc bs mX13_likely 7 [some (vR r0), some (vI x1), some (vI x2), some (vI x3), some (vI x4), l5, l6, l7, l8, l9, l10, l11, l12, l13] [] h n Q) : Rn d (bc) (bs) mX13_likely 4 [some (vR r0), some (vI x1), some (vI x2), some (vI x3), some (vI x4), l5, l6, l7, l8, l9, l10, l11, l12, l13] [vI s0] h n Q := by
  refine Rn_ifeq (tgt := 25) dX13_likely_4 rfl ?_ ?_
  · exact kt
  · exact kf
theorem BX13_likely_7 {d bc bs : Nat} {h : aH} {n : Nat} {Q : aQ} {ar0 : Nat} {x1 x2 x3 x4 : Int} {l5 l6 l7 l8 l9 l10 l11 l12 l13 : Option aV} {f1 : List aV} (h2 : h ar0 = cO 13 f1) (k : Rn d 0 0 mX13_isPerson 0 [some (vR (some ar0)), some (vI x2)] [] h n (fun v h1 n1 => Rn (d + 1) bc bs mX13_likely 12 [some (vR (some ar0)), some (vI x1), some (vI x2), some (vI x3), some (vI x4), l5, l6, l7, l8, l9, l10, l11, l12, l13] (v.toList ++ []) h1 n1 Q)) : Rn (d + 1) (bc) (bs) mX13_likely 7 [some (vR (some ar0)), some (vI x1), some (vI x2), some (vI x3), some (vI x4), l5, l6, l7, l8, l9, l10, l11, l12, l13] [] h n Q := by
  refine Rn_aload_n dX13_likely_7 rfl rfl rfl ?_
  refine Rn_iload_n dX13_likely_8 rfl rfl ?_
  exact Rn_callV (ci := 13) (avs := [vI x2]) (st := []) (bc1 := 0) (bs1 := 0) (bc2 := bc) (bs2 := bs) fx_X13_isPerson dX13_likely_9 wd_1646 wd_1648 wd_74 rfl h2 rfl (Nat.le_of_ble_eq_true rfl) (Nat.le_of_ble_eq_true rfl) (by omega) (by omega) (ls1 := [some (vR (some ar0)), some (vI x2)]) rfl k
theorem BX13_likely_12 {d bc bs : Nat} {h : aH} {n : Nat} {Q : aQ} {r0 : Option Nat} {x1 x2 x3 x4 s0 : Int} {l5 l6 l7 l8 l9 l10 l11 l12 l13 : Option aV} (kt : s0 = 0 → Rn d bc bs mX13_likely 25 [some (vR r0), some (vI x1), some (vI x2), some (vI x3), some (vI x4), l5, l6, l7, l8, l9, l10, l11, l12, l13] [] h n Q) (kf : s0 ≠ 0 → Rn d bc bs mX13_likely 15 [some (vR r0), some (vI x1), some (vI x2), some (vI x3), some (vI x4), l5, l6, l7, l8, l9, l10, l11, l12, l13] [] h n Q) : Rn d (bc) (bs) mX13_likely 12 [some (vR r0), some (vI x1), some (vI x2), some (vI x3), some (vI x4), l5, l6, l7, l8, l9, l10, l11, l12, l13] [vI s0] h n Q := by
  refine Rn_ifeq (tgt := 25) dX13_likely_12 rfl ?_ ?_
  · exact kt
  · exact kf
theorem BX13_likely_15 {d bc bs : Nat} {h : aH} {n : Nat} {Q : aQ} {r0 : Option Nat} {x1 x2 x3 x4 : Int} {l5 l6 l7 l8 l9 l10 l11 l12 l13 : Option aV} (k : Rn d 0 0 mX13_isIn 0 [some (vI x3), some (vI 1), some (vI 8)] [] h n (fun v h1 n1 => Rn (d + 1) bc bs mX13_likely 22 [some (vR r0), some (vI x1), some (vI x2), some (vI x3), some (vI x4), l5, l6, l7, l8, l9, l10, l11, l12, l13] (v.toList ++ []) h1 n1 Q)) : Rn (d + 1) (bc) (bs) mX13_likely 15 [some (vR r0), some (vI x1), some (vI x2), some (vI x3), some (vI x4), l5, l6, l7, l8, l9, l10, l11, l12, l13] [] h n Q := by
  refine Rn_iload_n dX13_likely_15 rfl rfl ?_
  refine Rn_iconst dX13_likely_16 rfl ?_
  refine Rn_bipush dX13_likely_17 rfl ?_
  exact Rn_callS (avs := [vI x3, vI 1, vI 8]) (st := []) (bc1 := 0) (bs1 := 0) (bc2 := bc) (bs2 := bs) fx_X13_isIn dX13_likely_19 (Or.inl wd_1463) wd_1464 rfl (Nat.le_of_ble_eq_true rfl) (Nat.le_of_ble_eq_true rfl) (by omega) (by omega) (ls1 := [some (vI x3), some (vI 1), some (vI 8)]) rfl k
theorem BX13_likely_22 {d bc bs : Nat} {h : aH} {n : Nat} {Q : aQ} {r0 : Option Nat} {x1 x2 x3 x4 s0 : Int} {l5 l6 l7 l8 l9 l10 l11 l12 l13 : Option aV} (kt : s0 ≠ 0 → Rn d bc bs mX13_likely 29 [some (vR r0), some (vI x1), some (vI x2), some (vI x3), some (vI x4), l5, l6, l7, l8, l9, l10, l11, l12, l13] [] h n Q) (kf : s0 = 0 → Rn d bc bs mX13_likely 25 [some (vR r0), some (vI x1), some (vI x2), some (vI x3), some (vI x4), l5, l6, l7, l8, l9, l10, l11, l12, l13] [] h n Q) : Rn d (bc) (bs) mX13_likely 22 [some (vR r0), some (vI x1), some (vI x2), some (vI x3), some (vI x4), l5, l6, l7, l8, l9, l10, l11, l12, l13] [vI s0] h n Q := by
  refine Rn_ifne (tgt := 29) dX13_likely_22 rfl ?_ ?_
  · exact kt
  · exact kf
theorem BX13_likely_25 {d bc bs : Nat} {h : aH} {n : Nat} {Q : aQ} {r0 : Option Nat} {x1 x2 x3 x4 : Int} {l5 l6 l7 l8 l9 l10 l11 l12 l13 : Option aV} (k : Q (some (vL (-1))) h n) : Rn d (bc) (bs) mX13_likely 25 [some (vR r0), some (vI x1), some (vI x2), some (vI x3), some (vI x4), l5, l6, l7, l8, l9, l10, l11, l12, l13] [] h n Q := by
  refine Rn_ldc2 (x := (-1)) dX13_likely_25 wd_1931 rfl ?_
  exact Rn_lreturn rfl dX13_likely_28 k
theorem BX13_likely_29 {d bc bs : Nat} {h : aH} {n : Nat} {Q : aQ} {r0 : Option Nat} {x1 x2 x3 x4 : Int} {l5 l6 l7 l8 l9 l10 l11 l12 l13 : Option aV} (k : Rn d bc bs mX13_likely 44 [some (vR r0), some (vI x1), some (vI x2), some (vI x3), some (vI x4), some (vI x1), some (vL 1), none, some (vL 0), none, some (vL 1), none, some (vI 0), l13] [] h n Q) : Rn d (bc) (bs) mX13_likely 29 [some (vR r0), some (vI x1), some (vI x2), some (vI x3), some (vI x4), l5, l6, l7, l8, l9, l10, l11, l12, l13] [] h n Q := by
  refine Rn_iload_n dX13_likely_29 rfl rfl ?_
  refine Rn_istore dX13_likely_30 (Nat.le_of_ble_eq_true rfl) rfl rfl ?_
  refine Rn_lconst (x := 1) dX13_likely_32 rfl ?_
  refine Rn_lstore dX13_likely_33 (Nat.le_of_ble_eq_true rfl) rfl rfl ?_
  refine Rn_lconst (x := 0) dX13_likely_35 rfl ?_
  refine Rn_lstore dX13_likely_36 (Nat.le_of_ble_eq_true rfl) rfl rfl ?_
  refine Rn_lconst (x := 1) dX13_likely_38 rfl ?_
  refine Rn_lstore dX13_likely_39 (Nat.le_of_ble_eq_true rfl) rfl rfl ?_
  refine Rn_iconst dX13_likely_41 rfl ?_
  refine Rn_istore dX13_likely_42 (Nat.le_of_ble_eq_true rfl) rfl rfl ?_
  exact k
theorem BX13_likely_44 {d bc bs : Nat} {h : aH} {n : Nat} {Q : aQ} {r0 : Option Nat} {x1 x2 x3 x4 x5 x6 x8 x10 x12 : Int} {l13 : Option aV} (kt : x3 ≤ x12 → Rn d bc bs mX13_likely 165 [some (vR r0), some (vI x1), some (vI x2), some (vI x3), some (vI x4), some (vI x5), some (vL x6), none, some (vL x8), none, some (vL x10), none, some (vI x12), l13] [] h n Q) (kf : x12 < x3 → Rn d bc bs mX13_likely 50 [some (vR r0), some (vI x1), some (vI x2), some (vI x3), some (vI x4), some (vI x5), some (vL x6), none, some (vL x8), none, some (vL x10), none, some (vI x12), l13] [] h n Q) : Rn d (bc) (bs) mX13_likely 44 [some (vR r0), some (vI x1), some (vI x2), some (vI x3), some (vI x4), some (vI x5), some (vL x6), none, some (vL x8), none, some (vL x10), none, some (vI x12), l13] [] h n Q := by
  refine Rn_iload dX13_likely_44 rfl ?_
  refine Rn_iload_n dX13_likely_46 rfl rfl ?_
  refine Rn_icmpge (tgt := 165) dX13_likely_47 rfl ?_ ?_
  · exact kt
  · exact kf
theorem BX13_likely_50 {d bc bs : Nat} {h : aH} {n : Nat} {Q : aQ} {ar0 at3 : Nat} {x1 x2 x3 x4 x5 x6 x8 x10 x12 v7 : Int} {l13 : Option aV} {f1 : List aV} {w5 : List Int} (h2 : h ar0 = cO 13 f1) (g4 : f1[0]? = some (vR (some at3))) (h6 : h at3 = cI w5) (g8 : w5[(7 : Int).toNat]? = some v7) (b9 : -2147483648 ≤ v7 + x12 ∧ v7 + x12 < 2147483648) (k : Rn d 0 0 mX13_flowsTo 0 [some (vR (some ar0)), some (vI (v7 + x12)), some (vI x5)] [] h n (fun v h1 n1 => Rn (d + 1) bc bs mX13_likely 66 [some (vR (some ar0)), some (vI x1), some (vI x2), some (vI x3), some (vI x4), some (vI x5), some (vL x6), none, some (vL x8), none, some (vL x10), none, some (vI x12), l13] (v.toList ++ []) h1 n1 Q)) : Rn (d + 1) (bc) (bs) mX13_likely 50 [some (vR (some ar0)), some (vI x1), some (vI x2), some (vI x3), some (vI x4), some (vI x5), some (vL x6), none, some (vL x8), none, some (vL x10), none, some (vI x12), l13] [] h n Q := by
  refine Rn_aload_n dX13_likely_50 rfl rfl rfl ?_
  refine Rn_aload_n dX13_likely_51 rfl rfl rfl ?_
  refine Rn_getfield (ci := 13) (k := 0) dX13_likely_52 rfl in_13 (Nat.le_of_ble_eq_true rfl) wd_1352 rfl h2 g4 ?_
  refine Rn_bipush dX13_likely_55 rfl ?_
  refine Rn_iaload dX13_likely_57 h6 (by decide) g8 ?_
  refine Rn_iload dX13_likely_58 rfl ?_
  refine Rn_iadd dX13_likely_60 ?_
  rw [w32_id b9.1 b9.2]
  refine Rn_iload dX13_likely_61 rfl ?_
  exact Rn_callV (ci := 13) (avs := [vI (v7 + x12), vI x5]) (st := []) (bc1 := 0) (bs1 := 0) (bc2 := bc) (bs2 := bs) fx_X13_flowsTo dX13_likely_63 wd_1722 wd_1724 wd_90 rfl h2 rfl (Nat.le_of_ble_eq_true rfl) (Nat.le_of_ble_eq_true rfl) (by omega) (by omega) (ls1 := [some (vR (some ar0)), some (vI (v7 + x12)), some (vI x5)]) rfl k
theorem BX13_likely_66 {d bc bs : Nat} {h : aH} {n : Nat} {Q : aQ} {ar0 : Nat} {x1 x2 x3 x4 x5 x6 x8 x10 x12 s0 : Int} {l13 : Option aV} {f1 : List aV} (h2 : h ar0 = cO 13 f1) (k : Rn d 0 0 mX13_own 0 [some (vR (some ar0)), some (vI x2), some (vI 0)] [] h n (fun v h1 n1 => Rn (d + 1) bc bs mX13_likely 76 [some (vR (some ar0)), some (vI x1), some (vI x2), some (vI x3), some (vI x4), some (vI s0), some (vL x6), none, some (vL x8), none, some (vL x10), none, some (vI x12), l13] (v.toList ++ [vI s0]) h1 n1 Q)) : Rn (d + 1) (bc) (bs) mX13_likely 66 [some (vR (some ar0)), some (vI x1), some (vI x2), some (vI x3), some (vI x4), some (vI x5), some (vL x6), none, some (vL x8), none, some (vL x10), none, some (vI x12), l13] [vI s0] h n Q := by
  refine Rn_istore dX13_likely_66 (Nat.le_of_ble_eq_true rfl) rfl rfl ?_
  refine Rn_iload dX13_likely_68 rfl ?_
  refine Rn_aload_n dX13_likely_70 rfl rfl rfl ?_
  refine Rn_iload_n dX13_likely_71 rfl rfl ?_
  refine Rn_iconst dX13_likely_72 rfl ?_
  exact Rn_callV (ci := 13) (avs := [vI x2, vI 0]) (st := [vI s0]) (bc1 := 0) (bs1 := 0) (bc2 := bc) (bs2 := bs) fx_X13_own dX13_likely_73 wd_1662 wd_1664 wd_78 rfl h2 rfl (Nat.le_of_ble_eq_true rfl) (Nat.le_of_ble_eq_true rfl) (by omega) (by omega) (ls1 := [some (vR (some ar0)), some (vI x2), some (vI 0)]) rfl k
theorem BX13_likely_76 {d bc bs : Nat} {h : aH} {n : Nat} {Q : aQ} {r0 : Option Nat} {x1 x2 x3 x4 x5 x6 x8 x10 x12 s0 s1 : Int} {l13 : Option aV} (kt : s0 ≠ s1 → Rn d bc bs mX13_likely 83 [some (vR r0), some (vI x1), some (vI x2), some (vI x3), some (vI x4), some (vI x5), some (vL x6), none, some (vL x8), none, some (vL x10), none, some (vI x12), l13] [] h n Q) (kf : s0 = s1 → Rn d bc bs mX13_likely 79 [some (vR r0), some (vI x1), some (vI x2), some (vI x3), some (vI x4), some (vI x5), some (vL x6), none, some (vL x8), none, some (vL x10), none, some (vI x12), l13] [] h n Q) : Rn d (bc) (bs) mX13_likely 76 [some (vR r0), some (vI x1), some (vI x2), some (vI x3), some (vI x4), some (vI x5), some (vL x6), none, some (vL x8), none, some (vL x10), none, some (vI x12), l13] [vI s1, vI s0] h n Q := by
  refine Rn_icmpne (tgt := 83) dX13_likely_76 rfl ?_ ?_
  · exact kt
  · exact kf
theorem BX13_likely_79 {d bc bs : Nat} {h : aH} {n : Nat} {Q : aQ} {r0 : Option Nat} {x1 x2 x3 x4 x5 x6 x8 x10 x12 : Int} {l13 : Option aV} (b1 : -9223372036854775808 ≤ 10 * x8 ∧ 10 * x8 < 9223372036854775808) (kt : (1 : Int) = 0 → Rn d bc bs mX13_likely 112 [some (vR r0), some (vI x1), some (vI x2), some (vI x3), some (vI x4), some (vI x5), some (vL x6), none, some (vL x8), none, some (vL x10), none, some (vI x12), some (vI 1)] [vL (10 * x8)] h n Q) (kf : (1 : Int) ≠ 0 → Rn d bc bs mX13_likely 97 [some (vR r0), some (vI x1), some (vI x2), some (vI x3), some (vI x4), some (vI x5), some (vL x6), none, some (vL x8), none, some (vL x10), none, some (vI x12), some (vI 1)] [vL (10 * x8)] h n Q) : Rn d (bc) (bs) mX13_likely 79 [some (vR r0), some (vI x1), some (vI x2), some (vI x3), some (vI x4), some (vI x5), some (vL x6), none, some (vL x8), none, some (vL x10), none, some (vI x12), l13] [] h n Q := by
  refine Rn_iconst dX13_likely_79 rfl ?_
  refine Rn_goto (tgt := 84) dX13_likely_80 rfl ?_
  refine Rn_istore dX13_likely_84 (Nat.le_of_ble_eq_true rfl) rfl rfl ?_
  refine Rn_ldc2 (x := 10) dX13_likely_86 wd_1932 rfl ?_
  refine Rn_lload dX13_likely_89 rfl ?_
  refine Rn_lmul dX13_likely_91 ?_
  rw [w64_id b1.1 b1.2]
  refine Rn_iload dX13_likely_92 rfl ?_
  refine Rn_ifeq (tgt := 112) dX13_likely_94 rfl ?_ ?_
  · exact kt
  · exact kf
theorem BX13_likely_83 {d bc bs : Nat} {h : aH} {n : Nat} {Q : aQ} {r0 : Option Nat} {x1 x2 x3 x4 x5 x6 x8 x10 x12 : Int} {l13 : Option aV} (b1 : -9223372036854775808 ≤ 10 * x8 ∧ 10 * x8 < 9223372036854775808) (kt : (0 : Int) = 0 → Rn d bc bs mX13_likely 112 [some (vR r0), some (vI x1), some (vI x2), some (vI x3), some (vI x4), some (vI x5), some (vL x6), none, some (vL x8), none, some (vL x10), none, some (vI x12), some (vI 0)] [vL (10 * x8)] h n Q) (kf : (0 : Int) ≠ 0 → Rn d bc bs mX13_likely 97 [some (vR r0), some (vI x1), some (vI x2), some (vI x3), some (vI x4), some (vI x5), some (vL x6), none, some (vL x8), none, some (vL x10), none, some (vI x12), some (vI 0)] [vL (10 * x8)] h n Q) : Rn d (bc) (bs) mX13_likely 83 [some (vR r0), some (vI x1), some (vI x2), some (vI x3), some (vI x4), some (vI x5), some (vL x6), none, some (vL x8), none, some (vL x10), none, some (vI x12), l13] [] h n Q := by
  refine Rn_iconst dX13_likely_83 rfl ?_
  refine Rn_istore dX13_likely_84 (Nat.le_of_ble_eq_true rfl) rfl rfl ?_
  refine Rn_ldc2 (x := 10) dX13_likely_86 wd_1932 rfl ?_
  refine Rn_lload dX13_likely_89 rfl ?_
  refine Rn_lmul dX13_likely_91 ?_
  rw [w64_id b1.1 b1.2]
  refine Rn_iload dX13_likely_92 rfl ?_
  refine Rn_ifeq (tgt := 112) dX13_likely_94 rfl ?_ ?_
  · exact kt
  · exact kf
theorem BX13_likely_97 {d bc bs : Nat} {h : aH} {n : Nat} {Q : aQ} {ar0 at3 : Nat} {x1 x2 x3 x4 x5 x6 x8 x10 x12 x13 s0 v7 v11 : Int} {f1 : List aV} {w5 : List Int} (h2 : h ar0 = cO 13 f1) (g4 : f1[0]? = some (vR (some at3))) (h6 : h at3 = cI w5) (g8 : w5[(145 : Int).toNat]? = some v7) (b9 : -9223372036854775808 ≤ x6 * v7 ∧ x6 * v7 < 9223372036854775808) (b10 : -9223372036854775808 ≤ s0 + (x6 * v7) ∧ s0 + (x6 * v7) < 9223372036854775808) (g12 : w5[(146 : Int).toNat]? = some v11) (b13 : -2147483648 ≤ 10 - v11 ∧ 10 - v11 < 2147483648) (kt : x13 = 0 → Rn d bc bs mX13_likely 145 [some (vR (some ar0)), some (vI x1), some (vI x2), some (vI x3), some (vI x4), some (vI x5), some (vL x6), none, some (vL (s0 + (x6 * v7))), none, some (vL x10), none, some (vI x12), some (vI x13)] [vI (10 - v11), vL x6] h n Q) (kf : x13 ≠ 0 → Rn d bc bs mX13_likely 134 [some (vR (some ar0)), some (vI x1), some (vI x2), some (vI x3), some (vI x4), some (vI x5), some (vL x6), none, some (vL (s0 + (x6 * v7))), none, some (vL x10), none, some (vI x12), some (vI x13)] [vI (10 - v11), vL x6] h n Q) : Rn d (bc) (bs) mX13_likely 97 [some (vR (some ar0)), some (vI x1), some (vI x2), some (vI x3), some (vI x4), some (vI x5), some (vL x6), none, some (vL x8), none, some (vL x10), none, some (vI x12), some (vI x13)] [vL s0] h n Q := by
  refine Rn_lload dX13_likely_97 rfl ?_
  refine Rn_aload_n dX13_likely_99 rfl rfl rfl ?_
  refine Rn_getfield (ci := 13) (k := 0) dX13_likely_100 rfl in_13 (Nat.le_of_ble_eq_true rfl) wd_1352 rfl h2 g4 ?_
  refine Rn_sipush dX13_likely_103 rfl ?_
  refine Rn_iaload dX13_likely_106 h6 (by decide) g8 ?_
  refine Rn_i2l dX13_likely_107 ?_
  refine Rn_lmul dX13_likely_108 ?_
  rw [w64_id b9.1 b9.2]
  refine Rn_goto (tgt := 113) dX13_likely_109 rfl ?_
  refine Rn_ladd dX13_likely_113 ?_
  rw [w64_id b10.1 b10.2]
  refine Rn_lstore dX13_likely_114 (Nat.le_of_ble_eq_true rfl) rfl rfl ?_
  refine Rn_lload dX13_likely_116 rfl ?_
  refine Rn_bipush dX13_likely_118 rfl ?_
  refine Rn_aload_n dX13_likely_120 rfl rfl rfl ?_
  refine Rn_getfield (ci := 13) (k := 0) dX13_likely_121 rfl in_13 (Nat.le_of_ble_eq_true rfl) wd_1352 rfl h2 g4 ?_
  refine Rn_sipush dX13_likely_124 rfl ?_
  refine Rn_iaload dX13_likely_127 h6 (by decide) g12 ?_
  refine Rn_isub dX13_likely_128 ?_
  rw [w32_id b13.1 b13.2]
  refine Rn_iload dX13_likely_129 rfl ?_
  refine Rn_ifeq (tgt := 145) dX13_likely_131 rfl ?_ ?_
  · exact kt
  · exact kf
theorem BX13_likely_112 {d bc bs : Nat} {h : aH} {n : Nat} {Q : aQ} {ar0 at4 : Nat} {x1 x2 x3 x4 x5 x6 x8 x10 x12 x13 s0 v8 : Int} {f2 : List aV} {w6 : List Int} (b1 : -9223372036854775808 ≤ s0 + 0 ∧ s0 + 0 < 9223372036854775808) (h3 : h ar0 = cO 13 f2) (g5 : f2[0]? = some (vR (some at4))) (h7 : h at4 = cI w6) (g9 : w6[(146 : Int).toNat]? = some v8) (b10 : -2147483648 ≤ 10 - v8 ∧ 10 - v8 < 2147483648) (kt : x13 = 0 → Rn d bc bs mX13_likely 145 [some (vR (some ar0)), some (vI x1), some (vI x2), some (vI x3), some (vI x4), some (vI x5), some (vL x6), none, some (vL (s0 + 0)), none, some (vL x10), none, some (vI x12), some (vI x13)] [vI (10 - v8), vL x6] h n Q) (kf : x13 ≠ 0 → Rn d bc bs mX13_likely 134 [some (vR (some ar0)), some (vI x1), some (vI x2), some (vI x3), some (vI x4), some (vI x5), some (vL x6), none, some (vL (s0 + 0)), none, some (vL x10), none, some (vI x12), some (vI x13)] [vI (10 - v8), vL x6] h n Q) : Rn d (bc) (bs) mX13_likely 112 [some (vR (some ar0)), some (vI x1), some (vI x2), some (vI x3), some (vI x4), some (vI x5), some (vL x6), none, some (vL x8), none, some (vL x10), none, some (vI x12), some (vI x13)] [vL s0] h n Q := by
  refine Rn_lconst (x := 0) dX13_likely_112 rfl ?_
  refine Rn_ladd dX13_likely_113 ?_
  rw [w64_id b1.1 b1.2]
  refine Rn_lstore dX13_likely_114 (Nat.le_of_ble_eq_true rfl) rfl rfl ?_
  refine Rn_lload dX13_likely_116 rfl ?_
  refine Rn_bipush dX13_likely_118 rfl ?_
  refine Rn_aload_n dX13_likely_120 rfl rfl rfl ?_
  refine Rn_getfield (ci := 13) (k := 0) dX13_likely_121 rfl in_13 (Nat.le_of_ble_eq_true rfl) wd_1352 rfl h3 g5 ?_
  refine Rn_sipush dX13_likely_124 rfl ?_
  refine Rn_iaload dX13_likely_127 h7 (by decide) g9 ?_
  refine Rn_isub dX13_likely_128 ?_
  rw [w32_id b10.1 b10.2]
  refine Rn_iload dX13_likely_129 rfl ?_
  refine Rn_ifeq (tgt := 145) dX13_likely_131 rfl ?_ ?_
  · exact kt
  · exact kf
theorem BX13_likely_134 {d bc bs : Nat} {h : aH} {n : Nat} {Q : aQ} {ar0 at3 : Nat} {x1 x2 x3 x4 x5 x6 x8 x10 x12 x13 s0 s1 v7 : Int} {f1 : List aV} {w5 : List Int} (h2 : h ar0 = cO 13 f1) (g4 : f1[0]? = some (vR (some at3))) (h6 : h at3 = cI w5) (g8 : w5[(145 : Int).toNat]? = some v7) (b9 : -2147483648 ≤ s1 - v7 ∧ s1 - v7 < 2147483648) (b10 : -9223372036854775808 ≤ s0 * (s1 - v7) ∧ s0 * (s1 - v7) < 9223372036854775808) (b11 : -9223372036854775808 ≤ x10 * 10 ∧ x10 * 10 < 9223372036854775808) (b12 : -2147483648 ≤ x12 + 1 ∧ x12 + 1 < 2147483648) (k : Rn d bc bs mX13_likely 44 [some (vR (some ar0)), some (vI x1), some (vI x2), some (vI x3), some (vI x4), some (vI x5), some (vL (s0 * (s1 - v7))), none, some (vL x8), none, some (vL (x10 * 10)), none, some (vI (x12 + 1)), some (vI x13)] [] h n Q) : Rn d (bc) (bs) mX13_likely 134 [some (vR (some ar0)), some (vI x1), some (vI x2), some (vI x3), some (vI x4), some (vI x5), some (vL x6), none, some (vL x8), none, some (vL x10), none, some (vI x12), some (vI x13)] [vI s1, vL s0] h n Q := by
  refine Rn_aload_n dX13_likely_134 rfl rfl rfl ?_
  refine Rn_getfield (ci := 13) (k := 0) dX13_likely_135 rfl in_13 (Nat.le_of_ble_eq_true rfl) wd_1352 rfl h2 g4 ?_
  refine Rn_sipush dX13_likely_138 rfl ?_
  refine Rn_iaload dX13_likely_141 h6 (by decide) g8 ?_
  refine Rn_goto (tgt := 146) dX13_likely_142 rfl ?_
  refine Rn_isub dX13_likely_146 ?_
  rw [w32_id b9.1 b9.2]
  refine Rn_i2l dX13_likely_147 ?_
  refine Rn_lmul dX13_likely_148 ?_
  rw [w64_id b10.1 b10.2]
  refine Rn_lstore dX13_likely_149 (Nat.le_of_ble_eq_true rfl) rfl rfl ?_
  refine Rn_lload dX13_likely_151 rfl ?_
  refine Rn_ldc2 (x := 10) dX13_likely_153 wd_1932 rfl ?_
  refine Rn_lmul dX13_likely_156 ?_
  rw [w64_id b11.1 b11.2]
  refine Rn_lstore dX13_likely_157 (Nat.le_of_ble_eq_true rfl) rfl rfl ?_
  refine Rn_iinc dX13_likely_159 rfl (Nat.le_of_ble_eq_true rfl) rfl rfl rfl ?_
  rw [w32_id b12.1 b12.2]
  refine Rn_goto (tgt := 44) dX13_likely_162 rfl ?_
  exact k
theorem BX13_likely_145 {d bc bs : Nat} {h : aH} {n : Nat} {Q : aQ} {r0 : Option Nat} {x1 x2 x3 x4 x5 x6 x8 x10 x12 x13 s0 s1 : Int} (b1 : -2147483648 ≤ s1 - 0 ∧ s1 - 0 < 2147483648) (b2 : -9223372036854775808 ≤ s0 * (s1 - 0) ∧ s0 * (s1 - 0) < 9223372036854775808) (b3 : -9223372036854775808 ≤ x10 * 10 ∧ x10 * 10 < 9223372036854775808) (b4 : -2147483648 ≤ x12 + 1 ∧ x12 + 1 < 2147483648) (k : Rn d bc bs mX13_likely 44 [some (vR r0), some (vI x1), some (vI x2), some (vI x3), some (vI x4), some (vI x5), some (vL (s0 * (s1 - 0))), none, some (vL x8), none, some (vL (x10 * 10)), none, some (vI (x12 + 1)), some (vI x13)] [] h n Q) : Rn d (bc) (bs) mX13_likely 145 [some (vR r0), some (vI x1), some (vI x2), some (vI x3), some (vI x4), some (vI x5), some (vL x6), none, some (vL x8), none, some (vL x10), none, some (vI x12), some (vI x13)] [vI s1, vL s0] h n Q := by
  refine Rn_iconst dX13_likely_145 rfl ?_
  refine Rn_isub dX13_likely_146 ?_
  rw [w32_id b1.1 b1.2]
  refine Rn_i2l dX13_likely_147 ?_
  refine Rn_lmul dX13_likely_148 ?_
  rw [w64_id b2.1 b2.2]
  refine Rn_lstore dX13_likely_149 (Nat.le_of_ble_eq_true rfl) rfl rfl ?_
  refine Rn_lload dX13_likely_151 rfl ?_
  refine Rn_ldc2 (x := 10) dX13_likely_153 wd_1932 rfl ?_
  refine Rn_lmul dX13_likely_156 ?_
  rw [w64_id b3.1 b3.2]
  refine Rn_lstore dX13_likely_157 (Nat.le_of_ble_eq_true rfl) rfl rfl ?_
  refine Rn_iinc dX13_likely_159 rfl (Nat.le_of_ble_eq_true rfl) rfl rfl rfl ?_
  rw [w32_id b4.1 b4.2]
  refine Rn_goto (tgt := 44) dX13_likely_162 rfl ?_
  exact k
theorem BX13_likely_165 {d bc bs : Nat} {h : aH} {n : Nat} {Q : aQ} {r0 : Option Nat} {x1 x2 x3 x4 x5 x6 x8 x10 x12 : Int} {l13 : Option aV} (kt : x4 = 0 → Rn d bc bs mX13_likely 175 [some (vR r0), some (vI x1), some (vI x2), some (vI x3), some (vI x4), some (vI x5), some (vL x6), none, some (vL x8), none, some (vL x10), none, some (vI x12), l13] [] h n Q) (kf : x4 ≠ 0 → Rn d bc bs mX13_likely 170 [some (vR r0), some (vI x1), some (vI x2), some (vI x3), some (vI x4), some (vI x5), some (vL x6), none, some (vL x8), none, some (vL x10), none, some (vI x12), l13] [] h n Q) : Rn d (bc) (bs) mX13_likely 165 [some (vR r0), some (vI x1), some (vI x2), some (vI x3), some (vI x4), some (vI x5), some (vL x6), none, some (vL x8), none, some (vL x10), none, some (vI x12), l13] [] h n Q := by
  refine Rn_iload dX13_likely_165 rfl ?_
  refine Rn_ifeq (tgt := 175) dX13_likely_167 rfl ?_ ?_
  · exact kt
  · exact kf
theorem BX13_likely_170 {d bc bs : Nat} {h : aH} {n : Nat} {Q : aQ} {r0 : Option Nat} {x1 x2 x3 x4 x5 x6 x8 x10 x12 : Int} {l13 : Option aV} (k : Rn d 0 0 mX13_divisor 0 [some (vL x8), none, some (vL x10), none, none, none, none, none, none, none] [] h n (fun v h1 n1 => Rn (d + 1) bc bs mX13_likely 184 [some (vR r0), some (vI x1), some (vI x2), some (vI x3), some (vI x4), some (vI x5), some (vL x6), none, some (vL x8), none, some (vL x10), none, some (vI x12), l13] (v.toList ++ [vL x10]) h1 n1 Q)) : Rn (d + 1) (bc) (bs) mX13_likely 170 [some (vR r0), some (vI x1), some (vI x2), some (vI x3), some (vI x4), some (vI x5), some (vL x6), none, some (vL x8), none, some (vL x10), none, some (vI x12), l13] [] h n Q := by
  refine Rn_lload dX13_likely_170 rfl ?_
  refine Rn_goto (tgt := 177) dX13_likely_172 rfl ?_
  refine Rn_lload dX13_likely_177 rfl ?_
  refine Rn_lload dX13_likely_179 rfl ?_
  exact Rn_callS (avs := [vL x8, vL x10]) (st := [vL x10]) (bc1 := 0) (bs1 := 0) (bc2 := bc) (bs2 := bs) fx_X13_divisor dX13_likely_181 (Or.inl wd_1933) wd_1934 rfl (Nat.le_of_ble_eq_true rfl) (Nat.le_of_ble_eq_true rfl) (by omega) (by omega) (ls1 := [some (vL x8), none, some (vL x10), none, none, none, none, none, none, none]) rfl k
theorem BX13_likely_175 {d bc bs : Nat} {h : aH} {n : Nat} {Q : aQ} {r0 : Option Nat} {x1 x2 x3 x4 x5 x6 x8 x10 x12 : Int} {l13 : Option aV} (k : Rn d 0 0 mX13_divisor 0 [some (vL x8), none, some (vL x10), none, none, none, none, none, none, none] [] h n (fun v h1 n1 => Rn (d + 1) bc bs mX13_likely 184 [some (vR r0), some (vI x1), some (vI x2), some (vI x3), some (vI x4), some (vI x5), some (vL x6), none, some (vL x8), none, some (vL x10), none, some (vI x12), l13] (v.toList ++ [vL x8]) h1 n1 Q)) : Rn (d + 1) (bc) (bs) mX13_likely 175 [some (vR r0), some (vI x1), some (vI x2), some (vI x3), some (vI x4), some (vI x5), some (vL x6), none, some (vL x8), none, some (vL x10), none, some (vI x12), l13] [] h n Q := by
  refine Rn_lload dX13_likely_175 rfl ?_
  refine Rn_lload dX13_likely_177 rfl ?_
  refine Rn_lload dX13_likely_179 rfl ?_
  exact Rn_callS (avs := [vL x8, vL x10]) (st := [vL x8]) (bc1 := 0) (bs1 := 0) (bc2 := bc) (bs2 := bs) fx_X13_divisor dX13_likely_181 (Or.inl wd_1933) wd_1934 rfl (Nat.le_of_ble_eq_true rfl) (Nat.le_of_ble_eq_true rfl) (by omega) (by omega) (ls1 := [some (vL x8), none, some (vL x10), none, none, none, none, none, none, none]) rfl k
theorem BX13_likely_184 {d bc bs : Nat} {h : aH} {n : Nat} {Q : aQ} {r0 : Option Nat} {x1 x2 x3 x4 x5 x6 x8 x10 x12 s0 s1 : Int} {l13 : Option aV} (e1 : ¬ s1 = 0) (b2 : -9223372036854775808 ≤ Int.tdiv s0 s1 ∧ Int.tdiv s0 s1 < 9223372036854775808) (k : Q (some (vL (Int.tdiv s0 s1))) h n) : Rn d (bc) (bs) mX13_likely 184 [some (vR r0), some (vI x1), some (vI x2), some (vI x3), some (vI x4), some (vI x5), some (vL x6), none, some (vL x8), none, some (vL x10), none, some (vI x12), l13] [vL s1, vL s0] h n Q := by
  refine Rn_ldiv dX13_likely_184 e1 ?_
  rw [w64_id b2.1 b2.2]
  exact Rn_lreturn rfl dX13_likely_185 k
theorem dX13_isWithoutNought_0 : decode cX13_isWithoutNought 0 = .ok (.iload_n 0, 1) := by decide +kernel
theorem dX13_isWithoutNought_1 : decode cX13_isWithoutNought 1 = .ok (.istore_n 1, 1) := by decide +kernel
theorem dX13_isWithoutNought_2 : decode cX13_isWithoutNought 2 = .ok (.iload_n 1, 1) := by decide +kernel
theorem dX13_isWithoutNought_3 : decode cX13_isWithoutNought 3 = .ok (.ifCond .le 20, 3) := by decide +kernel
theorem dX13_isWithoutNought_6 : decode cX13_isWithoutNought 6 = .ok (.iload_n 1, 1) := by decide +kernel
theorem dX13_isWithoutNought_7 : decode cX13_isWithoutNought 7 = .ok (.bipush 10, 2) := by decide +kernel
theorem dX13_isWithoutNought_9 : decode cX13_isWithoutNought 9 = .ok (.irem, 1) := by decide +kernel
theorem dX13_isWithoutNought_10 : decode cX13_isWithoutNought 10 = .ok (.ifCond .ne 5, 3) := by decide +kernel
theorem dX13_isWithoutNought_13 : decode cX13_isWithoutNought 13 = .ok (.iconst 0, 1) := by decide +kernel
theorem dX13_isWithoutNought_14 : decode cX13_isWithoutNought 14 = .ok (.ireturn, 1) := by decide +kernel
theorem dX13_isWithoutNought_15 : decode cX13_isWithoutNought 15 = .ok (.iload_n 1, 1) := by decide +kernel
theorem dX13_isWithoutNought_16 : decode cX13_isWithoutNought 16 = .ok (.bipush 10, 2) := by decide +kernel
theorem dX13_isWithoutNought_18 : decode cX13_isWithoutNought 18 = .ok (.idiv, 1) := by decide +kernel
theorem dX13_isWithoutNought_19 : decode cX13_isWithoutNought 19 = .ok (.istore_n 1, 1) := by decide +kernel
theorem dX13_isWithoutNought_20 : decode cX13_isWithoutNought 20 = .ok (.goto (-18), 3) := by decide +kernel
theorem dX13_isWithoutNought_23 : decode cX13_isWithoutNought 23 = .ok (.iconst 1, 1) := by decide +kernel
theorem dX13_isWithoutNought_24 : decode cX13_isWithoutNought 24 = .ok (.ireturn, 1) := by decide +kernel
theorem BX13_isWithoutNought_0 {d bc bs : Nat} {h : aH} {n : Nat} {Q : aQ} {x0 : Int} {l1 : Option aV} (k : Rn d bc bs mX13_isWithoutNought 2 [some (vI x0), some (vI x0)] [] h n Q) : Rn d (bc) (bs) mX13_isWithoutNought 0 [some (vI x0), l1] [] h n Q := by
  refine Rn_iload_n dX13_isWithoutNought_0 rfl rfl ?_
  refine Rn_istore_n dX13_isWithoutNought_1 rfl (Nat.le_of_ble_eq_true rfl) rfl rfl ?_
  exact k
theorem BX13_isWithoutNought_2 {d bc bs : Nat} {h : aH} {n : Nat} {Q : aQ} {x0 x1 : Int} (kt : x1 ≤ 0 → Rn d bc bs mX13_isWithoutNought 23 [some (vI x0), some (vI x1)] [] h n Q) (kf : 0 < x1 → Rn d bc bs mX13_isWithoutNought 6 [some (vI x0), some (vI x1)] [] h n Q) : Rn d (bc) (bs) mX13_isWithoutNought 2 [some (vI x0), some (vI x1)] [] h n Q := by
  refine Rn_iload_n dX13_isWithoutNought_2 rfl rfl ?_
  refine Rn_ifle (tgt := 23) dX13_isWithoutNought_3 rfl ?_ ?_
  · exact kt
  · exact kf
theorem BX13_isWithoutNought_6 {d bc bs : Nat} {h : aH} {n : Nat} {Q : aQ} {x0 x1 : Int} (b1 : 0 ≤ x1) (kt : (x1 % 10) ≠ 0 → Rn d bc bs mX13_isWithoutNought 15 [some (vI x0), some (vI x1)] [] h n Q) (kf : (x1 % 10) = 0 → Rn d bc bs mX13_isWithoutNought 13 [some (vI x0), some (vI x1)] [] h n Q) : Rn d (bc) (bs) mX13_isWithoutNought 6 [some (vI x0), some (vI x1)] [] h n Q := by
  refine Rn_iload_n dX13_isWithoutNought_6 rfl rfl ?_
  refine Rn_bipush dX13_isWithoutNought_7 rfl ?_
  refine Rn_irem dX13_isWithoutNought_9 (by decide) ?_
  rw [Int.tmod_eq_emod_of_nonneg b1]
  refine Rn_ifne (tgt := 15) dX13_isWithoutNought_10 rfl ?_ ?_
  · exact kt
  · exact kf
theorem BX13_isWithoutNought_13 {d bc bs : Nat} {h : aH} {n : Nat} {Q : aQ} {x0 x1 : Int} (k : Q (some (vI 0)) h n) : Rn d (bc) (bs) mX13_isWithoutNought 13 [some (vI x0), some (vI x1)] [] h n Q := by
  refine Rn_iconst dX13_isWithoutNought_13 rfl ?_
  exact Rn_zreturn rfl dX13_isWithoutNought_14 (by decide) k
theorem BX13_isWithoutNought_15 {d bc bs : Nat} {h : aH} {n : Nat} {Q : aQ} {x0 x1 : Int} (b1 : 0 ≤ x1) (b2 : -2147483648 ≤ x1 / 10 ∧ x1 / 10 < 2147483648) (k : Rn d bc bs mX13_isWithoutNought 2 [some (vI x0), some (vI (x1 / 10))] [] h n Q) : Rn d (bc) (bs) mX13_isWithoutNought 15 [some (vI x0), some (vI x1)] [] h n Q := by
  refine Rn_iload_n dX13_isWithoutNought_15 rfl rfl ?_
  refine Rn_bipush dX13_isWithoutNought_16 rfl ?_
  refine Rn_idiv dX13_isWithoutNought_18 (by decide) ?_
  rw [Int.tdiv_eq_ediv_of_nonneg b1]
  rw [w32_id b2.1 b2.2]
  refine Rn_istore_n dX13_isWithoutNought_19 rfl (Nat.le_of_ble_eq_true rfl) rfl rfl ?_
  refine Rn_goto (tgt := 2) dX13_isWithoutNought_20 rfl ?_
  exact k
theorem BX13_isWithoutNought_23 {d bc bs : Nat} {h : aH} {n : Nat} {Q : aQ} {x0 x1 : Int} (k : Q (some (vI 1)) h n) : Rn d (bc) (bs) mX13_isWithoutNought 23 [some (vI x0), some (vI x1)] [] h n Q := by
  refine Rn_iconst dX13_isWithoutNought_23 rfl ?_
  exact Rn_zreturn rfl dX13_isWithoutNought_24 (by decide) k
theorem dX13_code_0 : decode cX13_code 0 = .ok (.iload_n 1, 1) := by decide +kernel
theorem dX13_code_1 : decode cX13_code 1 = .ok (.iconst (-1), 1) := by decide +kernel
theorem dX13_code_2 : decode cX13_code 2 = .ok (.if_icmp .ne 12, 3) := by decide +kernel
theorem dX13_code_5 : decode cX13_code 5 = .ok (.aload_n 0, 1) := by decide +kernel
theorem dX13_code_6 : decode cX13_code 6 = .ok (.getfield 7, 3) := by decide +kernel
theorem dX13_code_9 : decode cX13_code 9 = .ok (.iconst 5, 1) := by decide +kernel
theorem dX13_code_10 : decode cX13_code 10 = .ok (.iconst 0, 1) := by decide +kernel
theorem dX13_code_11 : decode cX13_code 11 = .ok (.iastore, 1) := by decide +kernel
theorem dX13_code_12 : decode cX13_code 12 = .ok (.iconst 0, 1) := by decide +kernel
theorem dX13_code_13 : decode cX13_code 13 = .ok (.ireturn, 1) := by decide +kernel
theorem dX13_code_14 : decode cX13_code 14 = .ok (.iload_n 1, 1) := by decide +kernel
theorem dX13_code_15 : decode cX13_code 15 = .ok (.iconst 1, 1) := by decide +kernel
theorem dX13_code_16 : decode cX13_code 16 = .ok (.sipush 9999, 3) := by decide +kernel
theorem dX13_code_19 : decode cX13_code 19 = .ok (.invokestatic 72, 3) := by decide +kernel
theorem dX13_code_22 : decode cX13_code 22 = .ok (.ifCond .eq 21, 3) := by decide +kernel
theorem dX13_code_25 : decode cX13_code 25 = .ok (.iload_n 1, 1) := by decide +kernel
theorem dX13_code_26 : decode cX13_code 26 = .ok (.invokestatic 445, 3) := by decide +kernel
theorem dX13_code_29 : decode cX13_code 29 = .ok (.ifCond .eq 14, 3) := by decide +kernel
theorem dX13_code_32 : decode cX13_code 32 = .ok (.aload_n 0, 1) := by decide +kernel
theorem dX13_code_33 : decode cX13_code 33 = .ok (.getfield 7, 3) := by decide +kernel
theorem dX13_code_36 : decode cX13_code 36 = .ok (.iconst 5, 1) := by decide +kernel
theorem dX13_code_37 : decode cX13_code 37 = .ok (.iaload, 1) := by decide +kernel
theorem dX13_code_38 : decode cX13_code 38 = .ok (.bipush 8, 2) := by decide +kernel
theorem dX13_code_40 : decode cX13_code 40 = .ok (.if_icmp .ne 6, 3) := by decide +kernel
theorem dX13_code_43 : decode cX13_code 43 = .ok (.bipush (-2), 2) := by decide +kernel
theorem dX13_code_45 : decode cX13_code 45 = .ok (.ireturn, 1) := by decide +kernel
theorem dX13_code_46 : decode cX13_code 46 = .ok (.iconst 0, 1) := by decide +kernel
theorem dX13_code_47 : decode cX13_code 47 = .ok (.istore_n 2, 1) := by decide +kernel
theorem dX13_code_48 : decode cX13_code 48 = .ok (.iload_n 2, 1) := by decide +kernel
theorem dX13_code_49 : decode cX13_code 49 = .ok (.aload_n 0, 1) := by decide +kernel
theorem dX13_code_50 : decode cX13_code 50 = .ok (.getfield 7, 3) := by decide +kernel
theorem dX13_code_53 : decode cX13_code 53 = .ok (.iconst 5, 1) := by decide +kernel
theorem dX13_code_54 : decode cX13_code 54 = .ok (.iaload, 1) := by decide +kernel
theorem dX13_code_55 : decode cX13_code 55 = .ok (.if_icmp .ge 26, 3) := by decide +kernel
theorem dX13_code_58 : decode cX13_code 58 = .ok (.aload_n 0, 1) := by decide +kernel
theorem dX13_code_59 : decode cX13_code 59 = .ok (.getfield 7, 3) := by decide +kernel
theorem dX13_code_62 : decode cX13_code 62 = .ok (.sipush 137, 3) := by decide +kernel
theorem dX13_code_65 : decode cX13_code 65 = .ok (.iload_n 2, 1) := by decide +kernel
theorem dX13_code_66 : decode cX13_code 66 = .ok (.iadd, 1) := by decide +kernel
theorem dX13_code_67 : decode cX13_code 67 = .ok (.iaload, 1) := by decide +kernel
theorem dX13_code_68 : decode cX13_code 68 = .ok (.iload_n 1, 1) := by decide +kernel
theorem dX13_code_69 : decode cX13_code 69 = .ok (.if_icmp .ne 6, 3) := by decide +kernel
theorem dX13_code_72 : decode cX13_code 72 = .ok (.bipush (-2), 2) := by decide +kernel
theorem dX13_code_74 : decode cX13_code 74 = .ok (.ireturn, 1) := by decide +kernel
theorem dX13_code_75 : decode cX13_code 75 = .ok (.iinc 2 1, 3) := by decide +kernel
theorem dX13_code_78 : decode cX13_code 78 = .ok (.goto (-30), 3) := by decide +kernel
theorem dX13_code_81 : decode cX13_code 81 = .ok (.aload_n 0, 1) := by decide +kernel
theorem dX13_code_82 : decode cX13_code 82 = .ok (.getfield 7, 3) := by decide +kernel
theorem dX13_code_85 : decode cX13_code 85 = .ok (.sipush 137, 3) := by decide +kernel
theorem dX13_code_88 : decode cX13_code 88 = .ok (.aload_n 0, 1) := by decide +kernel
theorem dX13_code_89 : decode cX13_code 89 = .ok (.getfield 7, 3) := by decide +kernel
theorem dX13_code_92 : decode cX13_code 92 = .ok (.iconst 5, 1) := by decide +kernel
theorem dX13_code_93 : decode cX13_code 93 = .ok (.iaload, 1) := by decide +kernel
theorem dX13_code_94 : decode cX13_code 94 = .ok (.iadd, 1) := by decide +kernel
theorem dX13_code_95 : decode cX13_code 95 = .ok (.iload_n 1, 1) := by decide +kernel
theorem dX13_code_96 : decode cX13_code 96 = .ok (.iastore, 1) := by decide +kernel
theorem dX13_code_97 : decode cX13_code 97 = .ok (.aload_n 0, 1) := by decide +kernel
theorem dX13_code_98 : decode cX13_code 98 = .ok (.getfield 7, 3) := by decide +kernel
theorem dX13_code_101 : decode cX13_code 101 = .ok (.iconst 5, 1) := by decide +kernel
theorem dX13_code_102 : decode cX13_code 102 = .ok (.dup2, 1) := by decide +kernel
theorem dX13_code_103 : decode cX13_code 103 = .ok (.iaload, 1) := by decide +kernel
theorem dX13_code_104 : decode cX13_code 104 = .ok (.iconst 1, 1) := by decide +kernel
theorem dX13_code_105 : decode cX13_code 105 = .ok (.iadd, 1) := by decide +kernel
theorem dX13_code_106 : decode cX13_code 106 = .ok (.iastore, 1) := by decide +kernel
theorem dX13_code_107 : decode cX13_code 107 = .ok (.aload_n 0, 1) := by decide +kernel
theorem dX13_code_108 : decode cX13_code 108 = .ok (.getfield 7, 3) := by decide +kernel
theorem dX13_code_111 : decode cX13_code 111 = .ok (.iconst 5, 1) := by decide +kernel
theorem dX13_code_112 : decode cX13_code 112 = .ok (.iaload, 1) := by decide +kernel
theorem dX13_code_113 : decode cX13_code 113 = .ok (.ireturn, 1) := by decide +kernel
theorem BX13_code_0 {d bc bs : Nat} {h : aH} {n : Nat} {Q : aQ} {r0 : Option Nat} {x1 : Int} {l2 : Option aV} (kt : x1 ≠ (-1) → Rn d bc bs mX13_code 14 [some (vR r0), some (vI x1), l2] [] h n Q) (kf : x1 = (-1) → Rn d bc bs mX13_code 5 [some (vR r0), some (vI x1), l2] [] h n Q) : Rn d (bc) (bs) mX13_code 0 [some (vR r0), some (vI x1), l2] [] h n Q := by
  refine Rn_iload_n dX13_code_0 rfl rfl ?_
  refine Rn_iconst dX13_code_1 rfl ?_
  refine Rn_icmpne (tgt := 14) dX13_code_2 rfl ?_ ?_
  · exact kt
  · exact kf
theorem BX13_code_5 {d bc bs : Nat} {h : aH} {n : Nat} {Q : aQ} {ar0 at3 : Nat} {x1 : Int} {l2 : Option aV} {f1 : List aV} {w5 : List Int} (h2 : h ar0 = cO 13 f1) (g4 : f1[0]? = some (vR (some at3))) (h6 : h at3 = cI w5) (j7 : (5 : Int) < w5.length) (z8 : at3 ≠ 0) (k : Rn d bc bs mX13_code 12 [some (vR (some ar0)), some (vI x1), l2] [] (up h at3 (cI (w5.set (5 : Int).toNat 0))) n Q) : Rn d (bc) (bs) mX13_code 5 [some (vR (some ar0)), some (vI x1), l2] [] h n Q := by
  refine Rn_aload_n dX13_code_5 rfl rfl rfl ?_
  refine Rn_getfield (ci := 13) (k := 0) dX13_code_6 rfl in_13 (Nat.le_of_ble_eq_true rfl) wd_1352 rfl h2 g4 ?_
  refine Rn_iconst dX13_code_9 rfl ?_
  refine Rn_iconst dX13_code_10 rfl ?_
  refine Rn_iastore dX13_code_11 z8 h6 (by decide) j7 ?_
  exact k
theorem BX13_code_12 {d bc bs : Nat} {h : aH} {n : Nat} {Q : aQ} {r0 : Option Nat} {x1 : Int} {l2 : Option aV} (k : Q (some (vI 0)) h n) : Rn d (bc) (bs) mX13_code 12 [some (vR r0), some (vI x1), l2] [] h n Q := by
  refine Rn_iconst dX13_code_12 rfl ?_
  exact Rn_ireturn rfl dX13_code_13 k
theorem BX13_code_14 {d bc bs : Nat} {h : aH} {n : Nat} {Q : aQ} {r0 : Option Nat} {x1 : Int} {l2 : Option aV} (k : Rn d 0 0 mX13_isIn 0 [some (vI x1), some (vI 1), some (vI 9999)] [] h n (fun v h1 n1 => Rn (d + 1) bc bs mX13_code 22 [some (vR r0), some (vI x1), l2] (v.toList ++ []) h1 n1 Q)) : Rn (d + 1) (bc) (bs) mX13_code 14 [some (vR r0), some (vI x1), l2] [] h n Q := by
  refine Rn_iload_n dX13_code_14 rfl rfl ?_
  refine Rn_iconst dX13_code_15 rfl ?_
  refine Rn_sipush dX13_code_16 rfl ?_
  exact Rn_callS (avs := [vI x1, vI 1, vI 9999]) (st := []) (bc1 := 0) (bs1 := 0) (bc2 := bc) (bs2 := bs) fx_X13_isIn dX13_code_19 (Or.inl wd_1463) wd_1464 rfl (Nat.le_of_ble_eq_true rfl) (Nat.le_of_ble_eq_true rfl) (by omega) (by omega) (ls1 := [some (vI x1), some (vI 1), some (vI 9999)]) rfl k
theorem BX13_code_22 {d bc bs : Nat} {h : aH} {n : Nat} {Q : aQ} {r0 : Option Nat} {x1 s0 : Int} {l2 : Option aV} (kt : s0 = 0 → Rn d bc bs mX13_code 43 [some (vR r0), some (vI x1), l2] [] h n Q) (kf : s0 ≠ 0 → Rn d bc bs mX13_code 25 [some (vR r0), some (vI x1), l2] [] h n Q) : Rn d (bc) (bs) mX13_code 22 [some (vR r0), some (vI x1), l2] [vI s0] h n Q := by
  refine Rn_ifeq (tgt := 43) dX13_code_22 rfl ?_ ?_
  · exact kt
  · exact kf
theorem BX13_code_25 {d bc bs : Nat} {h : aH} {n : Nat} {Q : aQ} {r0 : Option Nat} {x1 : Int} {l2 : Option aV} (k : Rn d 0 0 mX13_isWithoutNought 0 [some (vI x1), none] [] h n (fun v h1 n1 => Rn (d + 1) bc bs mX13_code 29 [some (vR r0), some (vI x1), l2] (v.toList ++ []) h1 n1 Q)) : Rn (d + 1) (bc) (bs) mX13_code 25 [some (vR r0), some (vI x1), l2] [] h n Q := by
  refine Rn_iload_n dX13_code_25 rfl rfl ?_
  exact Rn_callS (avs := [vI x1]) (st := []) (bc1 := 0) (bs1 := 0) (bc2 := bc) (bs2 := bs) fx_X13_isWithoutNought dX13_code_26 (Or.inl wd_1940) wd_1941 rfl (Nat.le_of_ble_eq_true rfl) (Nat.le_of_ble_eq_true rfl) (by omega) (by omega) (ls1 := [some (vI x1), none]) rfl k
theorem BX13_code_29 {d bc bs : Nat} {h : aH} {n : Nat} {Q : aQ} {r0 : Option Nat} {x1 s0 : Int} {l2 : Option aV} (kt : s0 = 0 → Rn d bc bs mX13_code 43 [some (vR r0), some (vI x1), l2] [] h n Q) (kf : s0 ≠ 0 → Rn d bc bs mX13_code 32 [some (vR r0), some (vI x1), l2] [] h n Q) : Rn d (bc) (bs) mX13_code 29 [some (vR r0), some (vI x1), l2] [vI s0] h n Q := by
  refine Rn_ifeq (tgt := 43) dX13_code_29 rfl ?_ ?_
  · exact kt
  · exact kf
theorem BX13_code_32 {d bc bs : Nat} {h : aH} {n : Nat} {Q : aQ} {ar0 at3 : Nat} {x1 v7 : Int} {l2 : Option aV} {f1 : List aV} {w5 : List Int} (h2 : h ar0 = cO 13 f1) (g4 : f1[0]? = some (vR (some at3))) (h6 : h at3 = cI w5) (g8 : w5[(5 : Int).toNat]? = some v7) (kt : v7 ≠ 8 → Rn d bc bs mX13_code 46 [some (vR (some ar0)), some (vI x1), l2] [] h n Q) (kf : v7 = 8 → Rn d bc bs mX13_code 43 [some (vR (some ar0)), some (vI x1), l2] [] h n Q) : Rn d (bc) (bs) mX13_code 32 [some (vR (some ar0)), some (vI x1), l2] [] h n Q := by
  refine Rn_aload_n dX13_code_32 rfl rfl rfl ?_
  refine Rn_getfield (ci := 13) (k := 0) dX13_code_33 rfl in_13 (Nat.le_of_ble_eq_true rfl) wd_1352 rfl h2 g4 ?_
  refine Rn_iconst dX13_code_36 rfl ?_
  refine Rn_iaload dX13_code_37 h6 (by decide) g8 ?_
  refine Rn_bipush dX13_code_38 rfl ?_
  refine Rn_icmpne (tgt := 46) dX13_code_40 rfl ?_ ?_
  · exact kt
  · exact kf
theorem BX13_code_43 {d bc bs : Nat} {h : aH} {n : Nat} {Q : aQ} {r0 : Option Nat} {x1 : Int} {l2 : Option aV} (k : Q (some (vI (-2))) h n) : Rn d (bc) (bs) mX13_code 43 [some (vR r0), some (vI x1), l2] [] h n Q := by
  refine Rn_bipush dX13_code_43 rfl ?_
  exact Rn_ireturn rfl dX13_code_45 k
theorem BX13_code_46 {d bc bs : Nat} {h : aH} {n : Nat} {Q : aQ} {r0 : Option Nat} {x1 : Int} {l2 : Option aV} (k : Rn d bc bs mX13_code 48 [some (vR r0), some (vI x1), some (vI 0)] [] h n Q) : Rn d (bc) (bs) mX13_code 46 [some (vR r0), some (vI x1), l2] [] h n Q := by
  refine Rn_iconst dX13_code_46 rfl ?_
  refine Rn_istore_n dX13_code_47 rfl (Nat.le_of_ble_eq_true rfl) rfl rfl ?_
  exact k
theorem BX13_code_48 {d bc bs : Nat} {h : aH} {n : Nat} {Q : aQ} {ar0 at3 : Nat} {x1 x2 v7 : Int} {f1 : List aV} {w5 : List Int} (h2 : h ar0 = cO 13 f1) (g4 : f1[0]? = some (vR (some at3))) (h6 : h at3 = cI w5) (g8 : w5[(5 : Int).toNat]? = some v7) (kt : v7 ≤ x2 → Rn d bc bs mX13_code 81 [some (vR (some ar0)), some (vI x1), some (vI x2)] [] h n Q) (kf : x2 < v7 → Rn d bc bs mX13_code 58 [some (vR (some ar0)), some (vI x1), some (vI x2)] [] h n Q) : Rn d (bc) (bs) mX13_code 48 [some (vR (some ar0)), some (vI x1), some (vI x2)] [] h n Q := by
  refine Rn_iload_n dX13_code_48 rfl rfl ?_
  refine Rn_aload_n dX13_code_49 rfl rfl rfl ?_
  refine Rn_getfield (ci := 13) (k := 0) dX13_code_50 rfl in_13 (Nat.le_of_ble_eq_true rfl) wd_1352 rfl h2 g4 ?_
  refine Rn_iconst dX13_code_53 rfl ?_
  refine Rn_iaload dX13_code_54 h6 (by decide) g8 ?_
  refine Rn_icmpge (tgt := 81) dX13_code_55 rfl ?_ ?_
  · exact kt
  · exact kf
theorem BX13_code_58 {d bc bs : Nat} {h : aH} {n : Nat} {Q : aQ} {ar0 at3 : Nat} {x1 x2 v8 : Int} {f1 : List aV} {w6 : List Int} (h2 : h ar0 = cO 13 f1) (g4 : f1[0]? = some (vR (some at3))) (b5 : -2147483648 ≤ 137 + x2 ∧ 137 + x2 < 2147483648) (h7 : h at3 = cI w6) (i9 : 0 ≤ 137 + x2) (g10 : w6[(137 + x2 : Int).toNat]? = some v8) (kt : v8 ≠ x1 → Rn d bc bs mX13_code 75 [some (vR (some ar0)), some (vI x1), some (vI x2)] [] h n Q) (kf : v8 = x1 → Rn d bc bs mX13_code 72 [some (vR (some ar0)), some (vI x1), some (vI x2)] [] h n Q) : Rn d (bc) (bs) mX13_code 58 [some (vR (some ar0)), some (vI x1), some (vI x2)] [] h n Q := by
  refine Rn_aload_n dX13_code_58 rfl rfl rfl ?_
  refine Rn_getfield (ci := 13) (k := 0) dX13_code_59 rfl in_13 (Nat.le_of_ble_eq_true rfl) wd_1352 rfl h2 g4 ?_
  refine Rn_sipush dX13_code_62 rfl ?_
  refine Rn_iload_n dX13_code_65 rfl rfl ?_
  refine Rn_iadd dX13_code_66 ?_
  rw [w32_id b5.1 b5.2]
  refine Rn_iaload dX13_code_67 h7 i9 g10 ?_
  refine Rn_iload_n dX13_code_68 rfl rfl ?_
  refine Rn_icmpne (tgt := 75) dX13_code_69 rfl ?_ ?_
  · exact kt
  · exact kf
theorem BX13_code_72 {d bc bs : Nat} {h : aH} {n : Nat} {Q : aQ} {r0 : Option Nat} {x1 x2 : Int} (k : Q (some (vI (-2))) h n) : Rn d (bc) (bs) mX13_code 72 [some (vR r0), some (vI x1), some (vI x2)] [] h n Q := by
  refine Rn_bipush dX13_code_72 rfl ?_
  exact Rn_ireturn rfl dX13_code_74 k
theorem BX13_code_75 {d bc bs : Nat} {h : aH} {n : Nat} {Q : aQ} {r0 : Option Nat} {x1 x2 : Int} (b1 : -2147483648 ≤ x2 + 1 ∧ x2 + 1 < 2147483648) (k : Rn d bc bs mX13_code 48 [some (vR r0), some (vI x1), some (vI (x2 + 1))] [] h n Q) : Rn d (bc) (bs) mX13_code 75 [some (vR r0), some (vI x1), some (vI x2)] [] h n Q := by
  refine Rn_iinc dX13_code_75 rfl (Nat.le_of_ble_eq_true rfl) rfl rfl rfl ?_
  rw [w32_id b1.1 b1.2]
  refine Rn_goto (tgt := 48) dX13_code_78 rfl ?_
  exact k
theorem BX13_code_81 {d bc bs : Nat} {h : aH} {n : Nat} {Q : aQ} {ar0 at3 : Nat} {x1 x2 v7 : Int} {f1 : List aV} {w5 : List Int} (h2 : h ar0 = cO 13 f1) (g4 : f1[0]? = some (vR (some at3))) (h6 : h at3 = cI w5) (g8 : w5[(5 : Int).toNat]? = some v7) (b9 : -2147483648 ≤ 137 + v7 ∧ 137 + v7 < 2147483648) (i10 : 0 ≤ 137 + v7) (j11 : 137 + v7 < w5.length) (z12 : at3 ≠ 0) (k : Rn d bc bs mX13_code 97 [some (vR (some ar0)), some (vI x1), some (vI x2)] [] (up h at3 (cI (w5.set (137 + v7 : Int).toNat x1))) n Q) : Rn d (bc) (bs) mX13_code 81 [some (vR (some ar0)), some (vI x1), some (vI x2)] [] h n Q := by
  refine Rn_aload_n dX13_code_81 rfl rfl rfl ?_
  refine Rn_getfield (ci := 13) (k := 0) dX13_code_82 rfl in_13 (Nat.le_of_ble_eq_true rfl) wd_1352 rfl h2 g4 ?_
  refine Rn_sipush dX13_code_85 rfl ?_
  refine Rn_aload_n dX13_code_88 rfl rfl rfl ?_
  refine Rn_getfield (ci := 13) (k := 0) dX13_code_89 rfl in_13 (Nat.le_of_ble_eq_true rfl) wd_1352 rfl h2 g4 ?_
  refine Rn_iconst dX13_code_92 rfl ?_
  refine Rn_iaload dX13_code_93 h6 (by decide) g8 ?_
  refine Rn_iadd dX13_code_94 ?_
  rw [w32_id b9.1 b9.2]
  refine Rn_iload_n dX13_code_95 rfl rfl ?_
  refine Rn_iastore dX13_code_96 z12 h6 i10 j11 ?_
  exact k
theorem BX13_code_97 {d bc bs : Nat} {h : aH} {n : Nat} {Q : aQ} {ar0 at3 : Nat} {x1 x2 v7 : Int} {f1 : List aV} {w5 : List Int} (h2 : h ar0 = cO 13 f1) (g4 : f1[0]? = some (vR (some at3))) (h6 : h at3 = cI w5) (g8 : w5[(5 : Int).toNat]? = some v7) (b9 : -2147483648 ≤ v7 + 1 ∧ v7 + 1 < 2147483648) (j10 : (5 : Int) < w5.length) (z11 : at3 ≠ 0) (k : Rn d bc bs mX13_code 107 [some (vR (some ar0)), some (vI x1), some (vI x2)] [] (up h at3 (cI (w5.set (5 : Int).toNat (v7 + 1)))) n Q) : Rn d (bc) (bs) mX13_code 97 [some (vR (some ar0)), some (vI x1), some (vI x2)] [] h n Q := by
  refine Rn_aload_n dX13_code_97 rfl rfl rfl ?_
  refine Rn_getfield (ci := 13) (k := 0) dX13_code_98 rfl in_13 (Nat.le_of_ble_eq_true rfl) wd_1352 rfl h2 g4 ?_
  refine Rn_iconst dX13_code_101 rfl ?_
  refine Rn_dup2 dX13_code_102 rfl rfl ?_
  refine Rn_iaload dX13_code_103 h6 (by decide) g8 ?_
  refine Rn_iconst dX13_code_104 rfl ?_
  refine Rn_iadd dX13_code_105 ?_
  rw [w32_id b9.1 b9.2]
  refine Rn_iastore dX13_code_106 z11 h6 (by decide) j10 ?_
  exact k
theorem BX13_code_107 {d bc bs : Nat} {h : aH} {n : Nat} {Q : aQ} {ar0 at3 : Nat} {x1 x2 v7 : Int} {f1 : List aV} {w5 : List Int} (h2 : h ar0 = cO 13 f1) (g4 : f1[0]? = some (vR (some at3))) (h6 : h at3 = cI w5) (g8 : w5[(5 : Int).toNat]? = some v7) (k : Q (some (vI v7)) h n) : Rn d (bc) (bs) mX13_code 107 [some (vR (some ar0)), some (vI x1), some (vI x2)] [] h n Q := by
  refine Rn_aload_n dX13_code_107 rfl rfl rfl ?_
  refine Rn_getfield (ci := 13) (k := 0) dX13_code_108 rfl in_13 (Nat.le_of_ble_eq_true rfl) wd_1352 rfl h2 g4 ?_
  refine Rn_iconst dX13_code_111 rfl ?_
  refine Rn_iaload dX13_code_112 h6 (by decide) g8 ?_
  exact Rn_ireturn rfl dX13_code_113 k
theorem dX13_longOf_0 : decode cX13_longOf 0 = .ok (.iload_n 0, 1) := by decide +kernel
theorem dX13_longOf_1 : decode cX13_longOf 1 = .ok (.bipush 10, 2) := by decide +kernel
theorem dX13_longOf_3 : decode cX13_longOf 3 = .ok (.if_icmp .ge 7, 3) := by decide +kernel
theorem dX13_longOf_6 : decode cX13_longOf 6 = .ok (.iconst 1, 1) := by decide +kernel
theorem dX13_longOf_7 : decode cX13_longOf 7 = .ok (.goto 25, 3) := by decide +kernel
theorem dX13_longOf_10 : decode cX13_longOf 10 = .ok (.iload_n 0, 1) := by decide +kernel
theorem dX13_longOf_11 : decode cX13_longOf 11 = .ok (.bipush 100, 2) := by decide +kernel
theorem dX13_longOf_13 : decode cX13_longOf 13 = .ok (.if_icmp .ge 7, 3) := by decide +kernel
theorem dX13_longOf_16 : decode cX13_longOf 16 = .ok (.iconst 2, 1) := by decide +kernel
theorem dX13_longOf_17 : decode cX13_longOf 17 = .ok (.goto 15, 3) := by decide +kernel
theorem dX13_longOf_20 : decode cX13_longOf 20 = .ok (.iload_n 0, 1) := by decide +kernel
theorem dX13_longOf_21 : decode cX13_longOf 21 = .ok (.sipush 1000, 3) := by decide +kernel
theorem dX13_longOf_24 : decode cX13_longOf 24 = .ok (.if_icmp .ge 7, 3) := by decide +kernel
theorem dX13_longOf_27 : decode cX13_longOf 27 = .ok (.iconst 3, 1) := by decide +kernel
theorem dX13_longOf_28 : decode cX13_longOf 28 = .ok (.goto 4, 3) := by decide +kernel
theorem dX13_longOf_31 : decode cX13_longOf 31 = .ok (.iconst 4, 1) := by decide +kernel
theorem dX13_longOf_32 : decode cX13_longOf 32 = .ok (.ireturn, 1) := by decide +kernel
theorem BX13_longOf_0 {d bc bs : Nat} {h : aH} {n : Nat} {Q : aQ} {x0 : Int} (kt : 10 ≤ x0 → Rn d bc bs mX13_longOf 10 [some (vI x0)] [] h n Q) (kf : x0 < 10 → Rn d bc bs mX13_longOf 6 [some (vI x0)] [] h n Q) : Rn d (bc) (bs) mX13_longOf 0 [some (vI x0)] [] h n Q := by
  refine Rn_iload_n dX13_longOf_0 rfl rfl ?_
  refine Rn_bipush dX13_longOf_1 rfl ?_
  refine Rn_icmpge (tgt := 10) dX13_longOf_3 rfl ?_ ?_
  · exact kt
  · exact kf
theorem BX13_longOf_6 {d bc bs : Nat} {h : aH} {n : Nat} {Q : aQ} {x0 : Int} (k : Q (some (vI 1)) h n) : Rn d (bc) (bs) mX13_longOf 6 [some (vI x0)] [] h n Q := by
  refine Rn_iconst dX13_longOf_6 rfl ?_
  refine Rn_goto (tgt := 32) dX13_longOf_7 rfl ?_
  exact Rn_ireturn rfl dX13_longOf_32 k
theorem BX13_longOf_10 {d bc bs : Nat} {h : aH} {n : Nat} {Q : aQ} {x0 : Int} (kt : 100 ≤ x0 → Rn d bc bs mX13_longOf 20 [some (vI x0)] [] h n Q) (kf : x0 < 100 → Rn d bc bs mX13_longOf 16 [some (vI x0)] [] h n Q) : Rn d (bc) (bs) mX13_longOf 10 [some (vI x0)] [] h n Q := by
  refine Rn_iload_n dX13_longOf_10 rfl rfl ?_
  refine Rn_bipush dX13_longOf_11 rfl ?_
  refine Rn_icmpge (tgt := 20) dX13_longOf_13 rfl ?_ ?_
  · exact kt
  · exact kf
theorem BX13_longOf_16 {d bc bs : Nat} {h : aH} {n : Nat} {Q : aQ} {x0 : Int} (k : Q (some (vI 2)) h n) : Rn d (bc) (bs) mX13_longOf 16 [some (vI x0)] [] h n Q := by
  refine Rn_iconst dX13_longOf_16 rfl ?_
  refine Rn_goto (tgt := 32) dX13_longOf_17 rfl ?_
  exact Rn_ireturn rfl dX13_longOf_32 k
theorem BX13_longOf_20 {d bc bs : Nat} {h : aH} {n : Nat} {Q : aQ} {x0 : Int} (kt : 1000 ≤ x0 → Rn d bc bs mX13_longOf 31 [some (vI x0)] [] h n Q) (kf : x0 < 1000 → Rn d bc bs mX13_longOf 27 [some (vI x0)] [] h n Q) : Rn d (bc) (bs) mX13_longOf 20 [some (vI x0)] [] h n Q := by
  refine Rn_iload_n dX13_longOf_20 rfl rfl ?_
  refine Rn_sipush dX13_longOf_21 rfl ?_
  refine Rn_icmpge (tgt := 31) dX13_longOf_24 rfl ?_ ?_
  · exact kt
  · exact kf
theorem BX13_longOf_27 {d bc bs : Nat} {h : aH} {n : Nat} {Q : aQ} {x0 : Int} (k : Q (some (vI 3)) h n) : Rn d (bc) (bs) mX13_longOf 27 [some (vI x0)] [] h n Q := by
  refine Rn_iconst dX13_longOf_27 rfl ?_
  refine Rn_goto (tgt := 32) dX13_longOf_28 rfl ?_
  exact Rn_ireturn rfl dX13_longOf_32 k
theorem BX13_longOf_31 {d bc bs : Nat} {h : aH} {n : Nat} {Q : aQ} {x0 : Int} (k : Q (some (vI 4)) h n) : Rn d (bc) (bs) mX13_longOf 31 [some (vI x0)] [] h n Q := by
  refine Rn_iconst dX13_longOf_31 rfl ?_
  exact Rn_ireturn rfl dX13_longOf_32 k
theorem dX13_tensOf_0 : decode cX13_tensOf 0 = .ok (.iconst 1, 1) := by decide +kernel
theorem dX13_tensOf_1 : decode cX13_tensOf 1 = .ok (.istore_n 1, 1) := by decide +kernel
theorem dX13_tensOf_2 : decode cX13_tensOf 2 = .ok (.iconst 0, 1) := by decide +kernel
theorem dX13_tensOf_3 : decode cX13_tensOf 3 = .ok (.istore_n 2, 1) := by decide +kernel
theorem dX13_tensOf_4 : decode cX13_tensOf 4 = .ok (.iload_n 2, 1) := by decide +kernel
theorem dX13_tensOf_5 : decode cX13_tensOf 5 = .ok (.iload_n 0, 1) := by decide +kernel
theorem dX13_tensOf_6 : decode cX13_tensOf 6 = .ok (.if_icmp .ge 14, 3) := by decide +kernel
theorem dX13_tensOf_9 : decode cX13_tensOf 9 = .ok (.iload_n 1, 1) := by decide +kernel
theorem dX13_tensOf_10 : decode cX13_tensOf 10 = .ok (.bipush 10, 2) := by decide +kernel
theorem dX13_tensOf_12 : decode cX13_tensOf 12 = .ok (.imul, 1) := by decide +kernel
theorem dX13_tensOf_13 : decode cX13_tensOf 13 = .ok (.istore_n 1, 1) := by decide +kernel
theorem dX13_tensOf_14 : decode cX13_tensOf 14 = .ok (.iinc 2 1, 3) := by decide +kernel
theorem dX13_tensOf_17 : decode cX13_tensOf 17 = .ok (.goto (-13), 3) := by decide +kernel
theorem dX13_tensOf_20 : decode cX13_tensOf 20 = .ok (.iload_n 1, 1) := by decide +kernel
theorem dX13_tensOf_21 : decode cX13_tensOf 21 = .ok (.ireturn, 1) := by decide +kernel
theorem BX13_tensOf_0 {d bc bs : Nat} {h : aH} {n : Nat} {Q : aQ} {x0 : Int} {l1 l2 : Option aV} (k : Rn d bc bs mX13_tensOf 4 [some (vI x0), some (vI 1), some (vI 0)] [] h n Q) : Rn d (bc) (bs) mX13_tensOf 0 [some (vI x0), l1, l2] [] h n Q := by
  refine Rn_iconst dX13_tensOf_0 rfl ?_
  refine Rn_istore_n dX13_tensOf_1 rfl (Nat.le_of_ble_eq_true rfl) rfl rfl ?_
  refine Rn_iconst dX13_tensOf_2 rfl ?_
  refine Rn_istore_n dX13_tensOf_3 rfl (Nat.le_of_ble_eq_true rfl) rfl rfl ?_
  exact k
theorem BX13_tensOf_4 {d bc bs : Nat} {h : aH} {n : Nat} {Q : aQ} {x0 x1 x2 : Int} (kt : x0 ≤ x2 → Rn d bc bs mX13_tensOf 20 [some (vI x0), some (vI x1), some (vI x2)] [] h n Q) (kf : x2 < x0 → Rn d bc bs mX13_tensOf 9 [some (vI x0), some (vI x1), some (vI x2)] [] h n Q) : Rn d (bc) (bs) mX13_tensOf 4 [some (vI x0), some (vI x1), some (vI x2)] [] h n Q := by
  refine Rn_iload_n dX13_tensOf_4 rfl rfl ?_
  refine Rn_iload_n dX13_tensOf_5 rfl rfl ?_
  refine Rn_icmpge (tgt := 20) dX13_tensOf_6 rfl ?_ ?_
  · exact kt
  · exact kf
theorem BX13_tensOf_9 {d bc bs : Nat} {h : aH} {n : Nat} {Q : aQ} {x0 x1 x2 : Int} (b1 : -2147483648 ≤ x1 * 10 ∧ x1 * 10 < 2147483648) (b2 : -2147483648 ≤ x2 + 1 ∧ x2 + 1 < 2147483648) (k : Rn d bc bs mX13_tensOf 4 [some (vI x0), some (vI (x1 * 10)), some (vI (x2 + 1))] [] h n Q) : Rn d (bc) (bs) mX13_tensOf 9 [some (vI x0), some (vI x1), some (vI x2)] [] h n Q := by
  refine Rn_iload_n dX13_tensOf_9 rfl rfl ?_
  refine Rn_bipush dX13_tensOf_10 rfl ?_
  refine Rn_imul dX13_tensOf_12 ?_
  rw [w32_id b1.1 b1.2]
  refine Rn_istore_n dX13_tensOf_13 rfl (Nat.le_of_ble_eq_true rfl) rfl rfl ?_
  refine Rn_iinc dX13_tensOf_14 rfl (Nat.le_of_ble_eq_true rfl) rfl rfl rfl ?_
  rw [w32_id b2.1 b2.2]
  refine Rn_goto (tgt := 4) dX13_tensOf_17 rfl ?_
  exact k
theorem BX13_tensOf_20 {d bc bs : Nat} {h : aH} {n : Nat} {Q : aQ} {x0 x1 x2 : Int} (k : Q (some (vI x1)) h n) : Rn d (bc) (bs) mX13_tensOf 20 [some (vI x0), some (vI x1), some (vI x2)] [] h n Q := by
  refine Rn_iload_n dX13_tensOf_20 rfl rfl ?_
  exact Rn_ireturn rfl dX13_tensOf_21 k
theorem dX13_restOf_0 : decode cX13_restOf 0 = .ok (.iload_n 0, 1) := by decide +kernel
theorem dX13_restOf_1 : decode cX13_restOf 1 = .ok (.invokestatic 448, 3) := by decide +kernel
theorem dX13_restOf_4 : decode cX13_restOf 4 = .ok (.iload_n 1, 1) := by decide +kernel
theorem dX13_restOf_5 : decode cX13_restOf 5 = .ok (.invokestatic 448, 3) := by decide +kernel
theorem dX13_restOf_8 : decode cX13_restOf 8 = .ok (.isub, 1) := by decide +kernel
theorem dX13_restOf_9 : decode cX13_restOf 9 = .ok (.istore_n 2, 1) := by decide +kernel
theorem dX13_restOf_10 : decode cX13_restOf 10 = .ok (.iload_n 2, 1) := by decide +kernel
theorem dX13_restOf_11 : decode cX13_restOf 11 = .ok (.ifCond .le 22, 3) := by decide +kernel
theorem dX13_restOf_14 : decode cX13_restOf 14 = .ok (.iload_n 0, 1) := by decide +kernel
theorem dX13_restOf_15 : decode cX13_restOf 15 = .ok (.iload_n 2, 1) := by decide +kernel
theorem dX13_restOf_16 : decode cX13_restOf 16 = .ok (.invokestatic 451, 3) := by decide +kernel
theorem dX13_restOf_19 : decode cX13_restOf 19 = .ok (.idiv, 1) := by decide +kernel
theorem dX13_restOf_20 : decode cX13_restOf 20 = .ok (.iload_n 1, 1) := by decide +kernel
theorem dX13_restOf_21 : decode cX13_restOf 21 = .ok (.if_icmp .ne 12, 3) := by decide +kernel
theorem dX13_restOf_24 : decode cX13_restOf 24 = .ok (.iload_n 0, 1) := by decide +kernel
theorem dX13_restOf_25 : decode cX13_restOf 25 = .ok (.iload_n 2, 1) := by decide +kernel
theorem dX13_restOf_26 : decode cX13_restOf 26 = .ok (.invokestatic 451, 3) := by decide +kernel
theorem dX13_restOf_29 : decode cX13_restOf 29 = .ok (.irem, 1) := by decide +kernel
theorem dX13_restOf_30 : decode cX13_restOf 30 = .ok (.goto 4, 3) := by decide +kernel
theorem dX13_restOf_33 : decode cX13_restOf 33 = .ok (.iconst (-1), 1) := by decide +kernel
theorem dX13_restOf_34 : decode cX13_restOf 34 = .ok (.ireturn, 1) := by decide +kernel
theorem BX13_restOf_0 {d bc bs : Nat} {h : aH} {n : Nat} {Q : aQ} {x0 x1 : Int} {l2 : Option aV} (k : Rn d 0 0 mX13_longOf 0 [some (vI x0)] [] h n (fun v h1 n1 => Rn (d + 1) bc bs mX13_restOf 4 [some (vI x0), some (vI x1), l2] (v.toList ++ []) h1 n1 Q)) : Rn (d + 1) (bc) (bs) mX13_restOf 0 [some (vI x0), some (vI x1), l2] [] h n Q := by
  refine Rn_iload_n dX13_restOf_0 rfl rfl ?_
  exact Rn_callS (avs := [vI x0]) (st := []) (bc1 := 0) (bs1 := 0) (bc2 := bc) (bs2 := bs) fx_X13_longOf dX13_restOf_1 (Or.inl wd_1954) wd_1955 rfl (Nat.le_of_ble_eq_true rfl) (Nat.le_of_ble_eq_true rfl) (by omega) (by omega) (ls1 := [some (vI x0)]) rfl k
theorem BX13_restOf_4 {d bc bs : Nat} {h : aH} {n : Nat} {Q : aQ} {x0 x1 s0 : Int} {l2 : Option aV} (k : Rn d 0 0 mX13_longOf 0 [some (vI x1)] [] h n (fun v h1 n1 => Rn (d + 1) bc bs mX13_restOf 8 [some (vI x0), some (vI x1), l2] (v.toList ++ [vI s0]) h1 n1 Q)) : Rn (d + 1) (bc) (bs) mX13_restOf 4 [some (vI x0), some (vI x1), l2] [vI s0] h n Q := by
  refine Rn_iload_n dX13_restOf_4 rfl rfl ?_
  exact Rn_callS (avs := [vI x1]) (st := [vI s0]) (bc1 := 0) (bs1 := 0) (bc2 := bc) (bs2 := bs) fx_X13_longOf dX13_restOf_5 (Or.inl wd_1954) wd_1955 rfl (Nat.le_of_ble_eq_true rfl) (Nat.le_of_ble_eq_true rfl) (by omega) (by omega) (ls1 := [some (vI x1)]) rfl k
theorem BX13_restOf_8 {d bc bs : Nat} {h : aH} {n : Nat} {Q : aQ} {x0 x1 s0 s1 : Int} {l2 : Option aV} (b1 : -2147483648 ≤ s0 - s1 ∧ s0 - s1 < 2147483648) (kt : (s0 - s1) ≤ 0 → Rn d bc bs mX13_restOf 33 [some (vI x0), some (vI x1), some (vI (s0 - s1))] [] h n Q) (kf : 0 < (s0 - s1) → Rn d bc bs mX13_restOf 14 [some (vI x0), some (vI x1), some (vI (s0 - s1))] [] h n Q) : Rn d (bc) (bs) mX13_restOf 8 [some (vI x0), some (vI x1), l2] [vI s1, vI s0] h n Q := by
  refine Rn_isub dX13_restOf_8 ?_
  rw [w32_id b1.1 b1.2]
  refine Rn_istore_n dX13_restOf_9 rfl (Nat.le_of_ble_eq_true rfl) rfl rfl ?_
  refine Rn_iload_n dX13_restOf_10 rfl rfl ?_
  refine Rn_ifle (tgt := 33) dX13_restOf_11 rfl ?_ ?_
  · exact kt
  · exact kf
theorem BX13_restOf_14 {d bc bs : Nat} {h : aH} {n : Nat} {Q : aQ} {x0 x1 x2 : Int} (k : Rn d 0 0 mX13_tensOf 0 [some (vI x2), none, none] [] h n (fun v h1 n1 => Rn (d + 1) bc bs mX13_restOf 19 [some (vI x0), some (vI x1), some (vI x2)] (v.toList ++ [vI x0]) h1 n1 Q)) : Rn (d + 1) (bc) (bs) mX13_restOf 14 [some (vI x0), some (vI x1), some (vI x2)] [] h n Q := by
  refine Rn_iload_n dX13_restOf_14 rfl rfl ?_
  refine Rn_iload_n dX13_restOf_15 rfl rfl ?_
  exact Rn_callS (avs := [vI x2]) (st := [vI x0]) (bc1 := 0) (bs1 := 0) (bc2 := bc) (bs2 := bs) fx_X13_tensOf dX13_restOf_16 (Or.inl wd_1957) wd_1958 rfl (Nat.le_of_ble_eq_true rfl) (Nat.le_of_ble_eq_true rfl) (by omega) (by omega) (ls1 := [some (vI x2), none, none]) rfl k
theorem BX13_restOf_19 {d bc bs : Nat} {h : aH} {n : Nat} {Q : aQ} {x0 x1 x2 s0 s1 : Int} (e1 : ¬ s1 = 0) (b2 : -2147483648 ≤ Int.tdiv s0 s1 ∧ Int.tdiv s0 s1 < 2147483648) (kt : (Int.tdiv s0 s1) ≠ x1 → Rn d bc bs mX13_restOf 33 [some (vI x0), some (vI x1), some (vI x2)] [] h n Q) (kf : (Int.tdiv s0 s1) = x1 → Rn d bc bs mX13_restOf 24 [some (vI x0), some (vI x1), some (vI x2)] [] h n Q) : Rn d (bc) (bs) mX13_restOf 19 [some (vI x0), some (vI x1), some (vI x2)] [vI s1, vI s0] h n Q := by
  refine Rn_idiv dX13_restOf_19 e1 ?_
  rw [w32_id b2.1 b2.2]
  refine Rn_iload_n dX13_restOf_20 rfl rfl ?_
  refine Rn_icmpne (tgt := 33) dX13_restOf_21 rfl ?_ ?_
  · exact kt
  · exact kf
theorem BX13_restOf_24 {d bc bs : Nat} {h : aH} {n : Nat} {Q : aQ} {x0 x1 x2 : Int} (k : Rn d 0 0 mX13_tensOf 0 [some (vI x2), none, none] [] h n (fun v h1 n1 => Rn (d + 1) bc bs mX13_restOf 29 [some (vI x0), some (vI x1), some (vI x2)] (v.toList ++ [vI x0]) h1 n1 Q)) : Rn (d + 1) (bc) (bs) mX13_restOf 24 [some (vI x0), some (vI x1), some (vI x2)] [] h n Q := by
  refine Rn_iload_n dX13_restOf_24 rfl rfl ?_
  refine Rn_iload_n dX13_restOf_25 rfl rfl ?_
  exact Rn_callS (avs := [vI x2]) (st := [vI x0]) (bc1 := 0) (bs1 := 0) (bc2 := bc) (bs2 := bs) fx_X13_tensOf dX13_restOf_26 (Or.inl wd_1957) wd_1958 rfl (Nat.le_of_ble_eq_true rfl) (Nat.le_of_ble_eq_true rfl) (by omega) (by omega) (ls1 := [some (vI x2), none, none]) rfl k
theorem BX13_restOf_29 {d bc bs : Nat} {h : aH} {n : Nat} {Q : aQ} {x0 x1 x2 s0 s1 : Int} (e1 : ¬ s1 = 0) (k : Q (some (vI (Int.tmod s0 s1))) h n) : Rn d (bc) (bs) mX13_restOf 29 [some (vI x0), some (vI x1), some (vI x2)] [vI s1, vI s0] h n Q := by
  refine Rn_irem dX13_restOf_29 e1 ?_
  refine Rn_goto (tgt := 34) dX13_restOf_30 rfl ?_
  exact Rn_ireturn rfl dX13_restOf_34 k
theorem BX13_restOf_33 {d bc bs : Nat} {h : aH} {n : Nat} {Q : aQ} {x0 x1 x2 : Int} (k : Q (some (vI (-1))) h n) : Rn d (bc) (bs) mX13_restOf 33 [some (vI x0), some (vI x1), some (vI x2)] [] h n Q := by
  refine Rn_iconst dX13_restOf_33 rfl ?_
  exact Rn_ireturn rfl dX13_restOf_34 k
theorem dX13_isShorter_0 : decode cX13_isShorter 0 = .ok (.iload_n 2, 1) := by decide +kernel
theorem dX13_isShorter_1 : decode cX13_isShorter 1 = .ok (.aload_n 0, 1) := by decide +kernel
theorem dX13_isShorter_2 : decode cX13_isShorter 2 = .ok (.getfield 56, 3) := by decide +kernel
theorem dX13_isShorter_5 : decode cX13_isShorter 5 = .ok (.iload_n 1, 1) := by decide +kernel
theorem dX13_isShorter_6 : decode cX13_isShorter 6 = .ok (.iaload, 1) := by decide +kernel
theorem dX13_isShorter_7 : decode cX13_isShorter 7 = .ok (.if_icmp .lt 5, 3) := by decide +kernel
theorem dX13_isShorter_10 : decode cX13_isShorter 10 = .ok (.iconst 0, 1) := by decide +kernel
theorem dX13_isShorter_11 : decode cX13_isShorter 11 = .ok (.ireturn, 1) := by decide +kernel
theorem dX13_isShorter_12 : decode cX13_isShorter 12 = .ok (.aload_n 0, 1) := by decide +kernel
theorem dX13_isShorter_13 : decode cX13_isShorter 13 = .ok (.getfield 56, 3) := by decide +kernel
theorem dX13_isShorter_16 : decode cX13_isShorter 16 = .ok (.iload_n 1, 1) := by decide +kernel
theorem dX13_isShorter_17 : decode cX13_isShorter 17 = .ok (.iload_n 2, 1) := by decide +kernel
theorem dX13_isShorter_18 : decode cX13_isShorter 18 = .ok (.iastore, 1) := by decide +kernel
theorem dX13_isShorter_19 : decode cX13_isShorter 19 = .ok (.iconst 1, 1) := by decide +kernel
theorem dX13_isShorter_20 : decode cX13_isShorter 20 = .ok (.ireturn, 1) := by decide +kernel
theorem BX13_isShorter_0 {d bc bs : Nat} {h : aH} {n : Nat} {Q : aQ} {ar0 at3 : Nat} {x1 x2 v7 : Int} {f1 : List aV} {w5 : List Int} (h2 : h ar0 = cO 13 f1) (g4 : f1[30]? = some (vR (some at3))) (h6 : h at3 = cI w5) (i8 : 0 ≤ x1) (g9 : w5[(x1 : Int).toNat]? = some v7) (kt : x2 < v7 → Rn d bc bs mX13_isShorter 12 [some (vR (some ar0)), some (vI x1), some (vI x2)] [] h n Q) (kf : v7 ≤ x2 → Rn d bc bs mX13_isShorter 10 [some (vR (some ar0)), some (vI x1), some (vI x2)] [] h n Q) : Rn d (bc) (bs) mX13_isShorter 0 [some (vR (some ar0)), some (vI x1), some (vI x2)] [] h n Q := by
  refine Rn_iload_n dX13_isShorter_0 rfl rfl ?_
  refine Rn_aload_n dX13_isShorter_1 rfl rfl rfl ?_
  refine Rn_getfield (ci := 13) (k := 30) dX13_isShorter_2 rfl in_13 (Nat.le_of_ble_eq_true rfl) wd_1382 rfl h2 g4 ?_
  refine Rn_iload_n dX13_isShorter_5 rfl rfl ?_
  refine Rn_iaload dX13_isShorter_6 h6 i8 g9 ?_
  refine Rn_icmplt (tgt := 12) dX13_isShorter_7 rfl ?_ ?_
  · exact kt
  · exact kf
theorem BX13_isShorter_10 {d bc bs : Nat} {h : aH} {n : Nat} {Q : aQ} {r0 : Option Nat} {x1 x2 : Int} (k : Q (some (vI 0)) h n) : Rn d (bc) (bs) mX13_isShorter 10 [some (vR r0), some (vI x1), some (vI x2)] [] h n Q := by
  refine Rn_iconst dX13_isShorter_10 rfl ?_
  exact Rn_zreturn rfl dX13_isShorter_11 (by decide) k
theorem BX13_isShorter_12 {d bc bs : Nat} {h : aH} {n : Nat} {Q : aQ} {ar0 at3 : Nat} {x1 x2 : Int} {f1 : List aV} {w5 : List Int} (h2 : h ar0 = cO 13 f1) (g4 : f1[30]? = some (vR (some at3))) (h6 : h at3 = cI w5) (i7 : 0 ≤ x1) (j8 : x1 < w5.length) (z9 : at3 ≠ 0) (k : Rn d bc bs mX13_isShorter 19 [some (vR (some ar0)), some (vI x1), some (vI x2)] [] (up h at3 (cI (w5.set (x1 : Int).toNat x2))) n Q) : Rn d (bc) (bs) mX13_isShorter 12 [some (vR (some ar0)), some (vI x1), some (vI x2)] [] h n Q := by
  refine Rn_aload_n dX13_isShorter_12 rfl rfl rfl ?_
  refine Rn_getfield (ci := 13) (k := 30) dX13_isShorter_13 rfl in_13 (Nat.le_of_ble_eq_true rfl) wd_1382 rfl h2 g4 ?_
  refine Rn_iload_n dX13_isShorter_16 rfl rfl ?_
  refine Rn_iload_n dX13_isShorter_17 rfl rfl ?_
  refine Rn_iastore dX13_isShorter_18 z9 h6 i7 j8 ?_
  exact k
theorem BX13_isShorter_19 {d bc bs : Nat} {h : aH} {n : Nat} {Q : aQ} {r0 : Option Nat} {x1 x2 : Int} (k : Q (some (vI 1)) h n) : Rn d (bc) (bs) mX13_isShorter 19 [some (vR r0), some (vI x1), some (vI x2)] [] h n Q := by
  refine Rn_iconst dX13_isShorter_19 rfl ?_
  exact Rn_zreturn rfl dX13_isShorter_20 (by decide) k
theorem dX13_isSpread_0 : decode cX13_isSpread 0 = .ok (.iconst 0, 1) := by decide +kernel
theorem dX13_isSpread_1 : decode cX13_isSpread 1 = .ok (.istore_n 2, 1) := by decide +kernel
theorem dX13_isSpread_2 : decode cX13_isSpread 2 = .ok (.iconst 0, 1) := by decide +kernel
theorem dX13_isSpread_3 : decode cX13_isSpread 3 = .ok (.istore_n 3, 1) := by decide +kernel
theorem dX13_isSpread_4 : decode cX13_isSpread 4 = .ok (.iload_n 3, 1) := by decide +kernel
theorem dX13_isSpread_5 : decode cX13_isSpread 5 = .ok (.aload_n 0, 1) := by decide +kernel
theorem dX13_isSpread_6 : decode cX13_isSpread 6 = .ok (.getfield 7, 3) := by decide +kernel
theorem dX13_isSpread_9 : decode cX13_isSpread 9 = .ok (.iconst 5, 1) := by decide +kernel
theorem dX13_isSpread_10 : decode cX13_isSpread 10 = .ok (.iaload, 1) := by decide +kernel
theorem dX13_isSpread_11 : decode cX13_isSpread 11 = .ok (.if_icmp .ge 83, 3) := by decide +kernel
theorem dX13_isSpread_14 : decode cX13_isSpread 14 = .ok (.aload_n 0, 1) := by decide +kernel
theorem dX13_isSpread_15 : decode cX13_isSpread 15 = .ok (.getfield 7, 3) := by decide +kernel
theorem dX13_isSpread_18 : decode cX13_isSpread 18 = .ok (.sipush 137, 3) := by decide +kernel
theorem dX13_isSpread_21 : decode cX13_isSpread 21 = .ok (.iload_n 3, 1) := by decide +kernel
theorem dX13_isSpread_22 : decode cX13_isSpread 22 = .ok (.iadd, 1) := by decide +kernel
theorem dX13_isSpread_23 : decode cX13_isSpread 23 = .ok (.iaload, 1) := by decide +kernel
theorem dX13_isSpread_24 : decode cX13_isSpread 24 = .ok (.istore 4, 2) := by decide +kernel
theorem dX13_isSpread_26 : decode cX13_isSpread 26 = .ok (.iload_n 1, 1) := by decide +kernel
theorem dX13_isSpread_27 : decode cX13_isSpread 27 = .ok (.iload 4, 2) := by decide +kernel
theorem dX13_isSpread_29 : decode cX13_isSpread 29 = .ok (.invokestatic 454, 3) := by decide +kernel
theorem dX13_isSpread_32 : decode cX13_isSpread 32 = .ok (.istore 5, 2) := by decide +kernel
theorem dX13_isSpread_34 : decode cX13_isSpread 34 = .ok (.iload 4, 2) := by decide +kernel
theorem dX13_isSpread_36 : decode cX13_isSpread 36 = .ok (.iload_n 1, 1) := by decide +kernel
theorem dX13_isSpread_37 : decode cX13_isSpread 37 = .ok (.invokestatic 454, 3) := by decide +kernel
theorem dX13_isSpread_40 : decode cX13_isSpread 40 = .ok (.istore 6, 2) := by decide +kernel
theorem dX13_isSpread_42 : decode cX13_isSpread 42 = .ok (.iload 5, 2) := by decide +kernel
theorem dX13_isSpread_44 : decode cX13_isSpread 44 = .ok (.ifCond .le 18, 3) := by decide +kernel
theorem dX13_isSpread_47 : decode cX13_isSpread 47 = .ok (.iload_n 2, 1) := by decide +kernel
theorem dX13_isSpread_48 : decode cX13_isSpread 48 = .ok (.aload_n 0, 1) := by decide +kernel
theorem dX13_isSpread_49 : decode cX13_isSpread 49 = .ok (.iload 5, 2) := by decide +kernel
theorem dX13_isSpread_51 : decode cX13_isSpread 51 = .ok (.aload_n 0, 1) := by decide +kernel
theorem dX13_isSpread_52 : decode cX13_isSpread 52 = .ok (.getfield 56, 3) := by decide +kernel
theorem dX13_isSpread_55 : decode cX13_isSpread 55 = .ok (.iload_n 1, 1) := by decide +kernel
theorem dX13_isSpread_56 : decode cX13_isSpread 56 = .ok (.iaload, 1) := by decide +kernel
theorem dX13_isSpread_57 : decode cX13_isSpread 57 = .ok (.invokevirtual 457, 3) := by decide +kernel
theorem dX13_isSpread_60 : decode cX13_isSpread 60 = .ok (.ior, 1) := by decide +kernel
theorem dX13_isSpread_61 : decode cX13_isSpread 61 = .ok (.istore_n 2, 1) := by decide +kernel
theorem dX13_isSpread_62 : decode cX13_isSpread 62 = .ok (.iload 6, 2) := by decide +kernel
theorem dX13_isSpread_64 : decode cX13_isSpread 64 = .ok (.ifCond .le 24, 3) := by decide +kernel
theorem dX13_isSpread_67 : decode cX13_isSpread 67 = .ok (.iload_n 2, 1) := by decide +kernel
theorem dX13_isSpread_68 : decode cX13_isSpread 68 = .ok (.aload_n 0, 1) := by decide +kernel
theorem dX13_isSpread_69 : decode cX13_isSpread 69 = .ok (.iload 6, 2) := by decide +kernel
theorem dX13_isSpread_71 : decode cX13_isSpread 71 = .ok (.aload_n 0, 1) := by decide +kernel
theorem dX13_isSpread_72 : decode cX13_isSpread 72 = .ok (.getfield 56, 3) := by decide +kernel
theorem dX13_isSpread_75 : decode cX13_isSpread 75 = .ok (.iload_n 1, 1) := by decide +kernel
theorem dX13_isSpread_76 : decode cX13_isSpread 76 = .ok (.iaload, 1) := by decide +kernel
theorem dX13_isSpread_77 : decode cX13_isSpread 77 = .ok (.iload 6, 2) := by decide +kernel
theorem dX13_isSpread_79 : decode cX13_isSpread 79 = .ok (.invokestatic 448, 3) := by decide +kernel
theorem dX13_isSpread_82 : decode cX13_isSpread 82 = .ok (.iadd, 1) := by decide +kernel
theorem dX13_isSpread_83 : decode cX13_isSpread 83 = .ok (.invokevirtual 457, 3) := by decide +kernel
theorem dX13_isSpread_86 : decode cX13_isSpread 86 = .ok (.ior, 1) := by decide +kernel
theorem dX13_isSpread_87 : decode cX13_isSpread 87 = .ok (.istore_n 2, 1) := by decide +kernel
theorem dX13_isSpread_88 : decode cX13_isSpread 88 = .ok (.iinc 3 1, 3) := by decide +kernel
theorem dX13_isSpread_91 : decode cX13_isSpread 91 = .ok (.goto (-87), 3) := by decide +kernel
theorem dX13_isSpread_94 : decode cX13_isSpread 94 = .ok (.iload_n 2, 1) := by decide +kernel
theorem dX13_isSpread_95 : decode cX13_isSpread 95 = .ok (.ireturn, 1) := by decide +kernel
theorem BX13_isSpread_0 {d bc bs : Nat} {h : aH} {n : Nat} {Q : aQ} {r0 : Option Nat} {x1 : Int} {l2 l3 l4 l5 l6 : Option aV} (k : Rn d bc bs mX13_isSpread 4 [some (vR r0), some (vI x1), some (vI 0), some (vI 0), l4, l5, l6] [] h n Q) : Rn d (bc) (bs) mX13_isSpread 0 [some (vR r0), some (vI x1), l2, l3, l4, l5, l6] [] h n Q := by
  refine Rn_iconst dX13_isSpread_0 rfl ?_
  refine Rn_istore_n dX13_isSpread_1 rfl (Nat.le_of_ble_eq_true rfl) rfl rfl ?_
  refine Rn_iconst dX13_isSpread_2 rfl ?_
  refine Rn_istore_n dX13_isSpread_3 rfl (Nat.le_of_ble_eq_true rfl) rfl rfl ?_
  exact k
theorem BX13_isSpread_4 {d bc bs : Nat} {h : aH} {n : Nat} {Q : aQ} {ar0 at3 : Nat} {x1 x2 x3 v7 : Int} {l4 l5 l6 : Option aV} {f1 : List aV} {w5 : List Int} (h2 : h ar0 = cO 13 f1) (g4 : f1[0]? = some (vR (some at3))) (h6 : h at3 = cI w5) (g8 : w5[(5 : Int).toNat]? = some v7) (kt : v7 ≤ x3 → Rn d bc bs mX13_isSpread 94 [some (vR (some ar0)), some (vI x1), some (vI x2), some (vI x3), l4, l5, l6] [] h n Q) (kf : x3 < v7 → Rn d bc bs mX13_isSpread 14 [some (vR (some ar0)), some (vI x1), some (vI x2), some (vI x3), l4, l5, l6] [] h n Q) : Rn d (bc) (bs) mX13_isSpread 4 [some (vR (some ar0)), some (vI x1), some (vI x2), some (vI x3), l4, l5, l6] [] h n Q := by
  refine Rn_iload_n dX13_isSpread_4 rfl rfl ?_
  refine Rn_aload_n dX13_isSpread_5 rfl rfl rfl ?_
  refine Rn_getfield (ci := 13) (k := 0) dX13_isSpread_6 rfl in_13 (Nat.le_of_ble_eq_true rfl) wd_1352 rfl h2 g4 ?_
  refine Rn_iconst dX13_isSpread_9 rfl ?_
  refine Rn_iaload dX13_isSpread_10 h6 (by decide) g8 ?_
  refine Rn_icmpge (tgt := 94) dX13_isSpread_11 rfl ?_ ?_
  · exact kt
  · exact kf
theorem BX13_isSpread_14 {d bc bs : Nat} {h : aH} {n : Nat} {Q : aQ} {ar0 at3 : Nat} {x1 x2 x3 v8 : Int} {l4 l5 l6 : Option aV} {f1 : List aV} {w6 : List Int} (h2 : h ar0 = cO 13 f1) (g4 : f1[0]? = some (vR (some at3))) (b5 : -2147483648 ≤ 137 + x3 ∧ 137 + x3 < 2147483648) (h7 : h at3 = cI w6) (i9 : 0 ≤ 137 + x3) (g10 : w6[(137 + x3 : Int).toNat]? = some v8) (k : Rn d 0 0 mX13_restOf 0 [some (vI x1), some (vI v8), none] [] h n (fun v h1 n1 => Rn (d + 1) bc bs mX13_isSpread 32 [some (vR (some ar0)), some (vI x1), some (vI x2), some (vI x3), some (vI v8), l5, l6] (v.toList ++ []) h1 n1 Q)) : Rn (d + 1) (bc) (bs) mX13_isSpread 14 [some (vR (some ar0)), some (vI x1), some (vI x2), some (vI x3), l4, l5, l6] [] h n Q := by
  refine Rn_aload_n dX13_isSpread_14 rfl rfl rfl ?_
  refine Rn_getfield (ci := 13) (k := 0) dX13_isSpread_15 rfl in_13 (Nat.le_of_ble_eq_true rfl) wd_1352 rfl h2 g4 ?_
  refine Rn_sipush dX13_isSpread_18 rfl ?_
  refine Rn_iload_n dX13_isSpread_21 rfl rfl ?_
  refine Rn_iadd dX13_isSpread_22 ?_
  rw [w32_id b5.1 b5.2]
  refine Rn_iaload dX13_isSpread_23 h7 i9 g10 ?_
  refine Rn_istore dX13_isSpread_24 (Nat.le_of_ble_eq_true rfl) rfl rfl ?_
  refine Rn_iload_n dX13_isSpread_26 rfl rfl ?_
  refine Rn_iload dX13_isSpread_27 rfl ?_
  exact Rn_callS (avs := [vI x1, vI v8]) (st := []) (bc1 := 0) (bs1 := 0) (bc2 := bc) (bs2 := bs) fx_X13_restOf dX13_isSpread_29 (Or.inl wd_1951) wd_1952 rfl (Nat.le_of_ble_eq_true rfl) (Nat.le_of_ble_eq_true rfl) (by omega) (by omega) (ls1 := [some (vI x1), some (vI v8), none]) rfl k
theorem BX13_isSpread_32 {d bc bs : Nat} {h : aH} {n : Nat} {Q : aQ} {r0 : Option Nat} {x1 x2 x3 x4 s0 : Int} {l5 l6 : Option aV} (k : Rn d 0 0 mX13_restOf 0 [some (vI x4), some (vI x1), none] [] h n (fun v h1 n1 => Rn (d + 1) bc bs mX13_isSpread 40 [some (vR r0), some (vI x1), some (vI x2), some (vI x3), some (vI x4), some (vI s0), l6] (v.toList ++ []) h1 n1 Q)) : Rn (d + 1) (bc) (bs) mX13_isSpread 32 [some (vR r0), some (vI x1), some (vI x2), some (vI x3), some (vI x4), l5, l6] [vI s0] h n Q := by
  refine Rn_istore dX13_isSpread_32 (Nat.le_of_ble_eq_true rfl) rfl rfl ?_
  refine Rn_iload dX13_isSpread_34 rfl ?_
  refine Rn_iload_n dX13_isSpread_36 rfl rfl ?_
  exact Rn_callS (avs := [vI x4, vI x1]) (st := []) (bc1 := 0) (bs1 := 0) (bc2 := bc) (bs2 := bs) fx_X13_restOf dX13_isSpread_37 (Or.inl wd_1951) wd_1952 rfl (Nat.le_of_ble_eq_true rfl) (Nat.le_of_ble_eq_true rfl) (by omega) (by omega) (ls1 := [some (vI x4), some (vI x1), none]) rfl k
theorem BX13_isSpread_40 {d bc bs : Nat} {h : aH} {n : Nat} {Q : aQ} {r0 : Option Nat} {x1 x2 x3 x4 x5 s0 : Int} {l6 : Option aV} (kt : x5 ≤ 0 → Rn d bc bs mX13_isSpread 62 [some (vR r0), some (vI x1), some (vI x2), some (vI x3), some (vI x4), some (vI x5), some (vI s0)] [] h n Q) (kf : 0 < x5 → Rn d bc bs mX13_isSpread 47 [some (vR r0), some (vI x1), some (vI x2), some (vI x3), some (vI x4), some (vI x5), some (vI s0)] [] h n Q) : Rn d (bc) (bs) mX13_isSpread 40 [some (vR r0), some (vI x1), some (vI x2), some (vI x3), some (vI x4), some (vI x5), l6] [vI s0] h n Q := by
  refine Rn_istore dX13_isSpread_40 (Nat.le_of_ble_eq_true rfl) rfl rfl ?_
  refine Rn_iload dX13_isSpread_42 rfl ?_
  refine Rn_ifle (tgt := 62) dX13_isSpread_44 rfl ?_ ?_
  · exact kt
  · exact kf
theorem BX13_isSpread_47 {d bc bs : Nat} {h : aH} {n : Nat} {Q : aQ} {ar0 at3 : Nat} {x1 x2 x3 x4 x5 x6 v7 : Int} {f1 : List aV} {w5 : List Int} (h2 : h ar0 = cO 13 f1) (g4 : f1[30]? = some (vR (some at3))) (h6 : h at3 = cI w5) (i8 : 0 ≤ x1) (g9 : w5[(x1 : Int).toNat]? = some v7) (k : Rn d 0 0 mX13_isShorter 0 [some (vR (some ar0)), some (vI x5), some (vI v7)] [] h n (fun v h1 n1 => Rn (d + 1) bc bs mX13_isSpread 60 [some (vR (some ar0)), some (vI x1), some (vI x2), some (vI x3), some (vI x4), some (vI x5), some (vI x6)] (v.toList ++ [vI x2]) h1 n1 Q)) : Rn (d + 1) (bc) (bs) mX13_isSpread 47 [some (vR (some ar0)), some (vI x1), some (vI x2), some (vI x3), some (vI x4), some (vI x5), some (vI x6)] [] h n Q := by
  refine Rn_iload_n dX13_isSpread_47 rfl rfl ?_
  refine Rn_aload_n dX13_isSpread_48 rfl rfl rfl ?_
  refine Rn_iload dX13_isSpread_49 rfl ?_
  refine Rn_aload_n dX13_isSpread_51 rfl rfl rfl ?_
  refine Rn_getfield (ci := 13) (k := 30) dX13_isSpread_52 rfl in_13 (Nat.le_of_ble_eq_true rfl) wd_1382 rfl h2 g4 ?_
  refine Rn_iload_n dX13_isSpread_55 rfl rfl ?_
  refine Rn_iaload dX13_isSpread_56 h6 i8 g9 ?_
  exact Rn_callV (ci := 13) (avs := [vI x5, vI v7]) (st := [vI x2]) (bc1 := 0) (bs1 := 0) (bc2 := bc) (bs2 := bs) fx_X13_isShorter dX13_isSpread_57 wd_1960 wd_1962 wd_115 rfl h2 rfl (Nat.le_of_ble_eq_true rfl) (Nat.le_of_ble_eq_true rfl) (by omega) (by omega) (ls1 := [some (vR (some ar0)), some (vI x5), some (vI v7)]) rfl k
theorem BX13_isSpread_60 {d bc bs : Nat} {h : aH} {n : Nat} {Q : aQ} {r0 : Option Nat} {x1 x2 x3 x4 x5 x6 s0 s1 : Int} (kt : x6 ≤ 0 → Rn d bc bs mX13_isSpread 88 [some (vR r0), some (vI x1), some (vI (or32 s0 s1)), some (vI x3), some (vI x4), some (vI x5), some (vI x6)] [] h n Q) (kf : 0 < x6 → Rn d bc bs mX13_isSpread 67 [some (vR r0), some (vI x1), some (vI (or32 s0 s1)), some (vI x3), some (vI x4), some (vI x5), some (vI x6)] [] h n Q) : Rn d (bc) (bs) mX13_isSpread 60 [some (vR r0), some (vI x1), some (vI x2), some (vI x3), some (vI x4), some (vI x5), some (vI x6)] [vI s1, vI s0] h n Q := by
  refine Rn_ior dX13_isSpread_60 ?_
  refine Rn_istore_n dX13_isSpread_61 rfl (Nat.le_of_ble_eq_true rfl) rfl rfl ?_
  refine Rn_iload dX13_isSpread_62 rfl ?_
  refine Rn_ifle (tgt := 88) dX13_isSpread_64 rfl ?_ ?_
  · exact kt
  · exact kf
theorem BX13_isSpread_62 {d bc bs : Nat} {h : aH} {n : Nat} {Q : aQ} {r0 : Option Nat} {x1 x2 x3 x4 x5 x6 : Int} (kt : x6 ≤ 0 → Rn d bc bs mX13_isSpread 88 [some (vR r0), some (vI x1), some (vI x2), some (vI x3), some (vI x4), some (vI x5), some (vI x6)] [] h n Q) (kf : 0 < x6 → Rn d bc bs mX13_isSpread 67 [some (vR r0), some (vI x1), some (vI x2), some (vI x3), some (vI x4), some (vI x5), some (vI x6)] [] h n Q) : Rn d (bc) (bs) mX13_isSpread 62 [some (vR r0), some (vI x1), some (vI x2), some (vI x3), some (vI x4), some (vI x5), some (vI x6)] [] h n Q := by
  refine Rn_iload dX13_isSpread_62 rfl ?_
  refine Rn_ifle (tgt := 88) dX13_isSpread_64 rfl ?_ ?_
  · exact kt
  · exact kf
theorem BX13_isSpread_67 {d bc bs : Nat} {h : aH} {n : Nat} {Q : aQ} {ar0 at3 : Nat} {x1 x2 x3 x4 x5 x6 v7 : Int} {f1 : List aV} {w5 : List Int} (h2 : h ar0 = cO 13 f1) (g4 : f1[30]? = some (vR (some at3))) (h6 : h at3 = cI w5) (i8 : 0 ≤ x1) (g9 : w5[(x1 : Int).toNat]? = some v7) (k : Rn d 0 0 mX13_longOf 0 [some (vI x6)] [] h n (fun v h1 n1 => Rn (d + 1) bc bs mX13_isSpread 82 [some (vR (some ar0)), some (vI x1), some (vI x2), some (vI x3), some (vI x4), some (vI x5), some (vI x6)] (v.toList ++ [vI v7, vI x6, vR (some ar0), vI x2]) h1 n1 Q)) : Rn (d + 1) (bc) (bs) mX13_isSpread 67 [some (vR (some ar0)), some (vI x1), some (vI x2), some (vI x3), some (vI x4), some (vI x5), some (vI x6)] [] h n Q := by
  refine Rn_iload_n dX13_isSpread_67 rfl rfl ?_
  refine Rn_aload_n dX13_isSpread_68 rfl rfl rfl ?_
  refine Rn_iload dX13_isSpread_69 rfl ?_
  refine Rn_aload_n dX13_isSpread_71 rfl rfl rfl ?_
  refine Rn_getfield (ci := 13) (k := 30) dX13_isSpread_72 rfl in_13 (Nat.le_of_ble_eq_true rfl) wd_1382 rfl h2 g4 ?_
  refine Rn_iload_n dX13_isSpread_75 rfl rfl ?_
  refine Rn_iaload dX13_isSpread_76 h6 i8 g9 ?_
  refine Rn_iload dX13_isSpread_77 rfl ?_
  exact Rn_callS (avs := [vI x6]) (st := [vI v7, vI x6, vR (some ar0), vI x2]) (bc1 := 0) (bs1 := 0) (bc2 := bc) (bs2 := bs) fx_X13_longOf dX13_isSpread_79 (Or.inl wd_1954) wd_1955 rfl (Nat.le_of_ble_eq_true rfl) (Nat.le_of_ble_eq_true rfl) (by omega) (by omega) (ls1 := [some (vI x6)]) rfl k
theorem BX13_isSpread_82 {d bc bs : Nat} {h : aH} {n : Nat} {Q : aQ} {r0 : Option Nat} {x1 x2 x3 x4 x5 x6 s0 s2 s3 s4 : Int} {aq1 : Nat} {f2 : List aV} (b1 : -2147483648 ≤ s3 + s4 ∧ s3 + s4 < 2147483648) (h3 : h aq1 = cO 13 f2) (k : Rn d 0 0 mX13_isShorter 0 [some (vR (some aq1)), some (vI s2), some (vI (s3 + s4))] [] h n (fun v h1 n1 => Rn (d + 1) bc bs mX13_isSpread 86 [some (vR r0), some (vI x1), some (vI x2), some (vI x3), some (vI x4), some (vI x5), some (vI x6)] (v.toList ++ [vI s0]) h1 n1 Q)) : Rn (d + 1) (bc) (bs) mX13_isSpread 82 [some (vR r0), some (vI x1), some (vI x2), some (vI x3), some (vI x4), some (vI x5), some (vI x6)] [vI s4, vI s3, vI s2, vR (some aq1), vI s0] h n Q := by
  refine Rn_iadd dX13_isSpread_82 ?_
  rw [w32_id b1.1 b1.2]
  exact Rn_callV (ci := 13) (avs := [vI s2, vI (s3 + s4)]) (st := [vI s0]) (bc1 := 0) (bs1 := 0) (bc2 := bc) (bs2 := bs) fx_X13_isShorter dX13_isSpread_83 wd_1960 wd_1962 wd_115 rfl h3 rfl (Nat.le_of_ble_eq_true rfl) (Nat.le_of_ble_eq_true rfl) (by omega) (by omega) (ls1 := [some (vR (some aq1)), some (vI s2), some (vI (s3 + s4))]) rfl k
theorem BX13_isSpread_86 {d bc bs : Nat} {h : aH} {n : Nat} {Q : aQ} {r0 : Option Nat} {x1 x2 x3 x4 x5 x6 s0 s1 : Int} (b1 : -2147483648 ≤ x3 + 1 ∧ x3 + 1 < 2147483648) (k : Rn d bc bs mX13_isSpread 4 [some (vR r0), some (vI x1), some (vI (or32 s0 s1)), some (vI (x3 + 1)), some (vI x4), some (vI x5), some (vI x6)] [] h n Q) : Rn d (bc) (bs) mX13_isSpread 86 [some (vR r0), some (vI x1), some (vI x2), some (vI x3), some (vI x4), some (vI x5), some (vI x6)] [vI s1, vI s0] h n Q := by
  refine Rn_ior dX13_isSpread_86 ?_
  refine Rn_istore_n dX13_isSpread_87 rfl (Nat.le_of_ble_eq_true rfl) rfl rfl ?_
  refine Rn_iinc dX13_isSpread_88 rfl (Nat.le_of_ble_eq_true rfl) rfl rfl rfl ?_
  rw [w32_id b1.1 b1.2]
  refine Rn_goto (tgt := 4) dX13_isSpread_91 rfl ?_
  exact k
theorem BX13_isSpread_88 {d bc bs : Nat} {h : aH} {n : Nat} {Q : aQ} {r0 : Option Nat} {x1 x2 x3 x4 x5 x6 : Int} (b1 : -2147483648 ≤ x3 + 1 ∧ x3 + 1 < 2147483648) (k : Rn d bc bs mX13_isSpread 4 [some (vR r0), some (vI x1), some (vI x2), some (vI (x3 + 1)), some (vI x4), some (vI x5), some (vI x6)] [] h n Q) : Rn d (bc) (bs) mX13_isSpread 88 [some (vR r0), some (vI x1), some (vI x2), some (vI x3), some (vI x4), some (vI x5), some (vI x6)] [] h n Q := by
  refine Rn_iinc dX13_isSpread_88 rfl (Nat.le_of_ble_eq_true rfl) rfl rfl rfl ?_
  rw [w32_id b1.1 b1.2]
  refine Rn_goto (tgt := 4) dX13_isSpread_91 rfl ?_
  exact k
theorem BX13_isSpread_94 {d bc bs : Nat} {h : aH} {n : Nat} {Q : aQ} {r0 : Option Nat} {x1 x2 x3 : Int} {l4 l5 l6 : Option aV} (b1 : x2 = 0 ∨ x2 = 1) (k : Q (some (vI x2)) h n) : Rn d (bc) (bs) mX13_isSpread 94 [some (vR r0), some (vI x1), some (vI x2), some (vI x3), l4, l5, l6] [] h n Q := by
  refine Rn_iload_n dX13_isSpread_94 rfl rfl ?_
  exact Rn_zreturn rfl dX13_isSpread_95 b1 k
theorem dX13_shortestTwo_0 : decode cX13_shortestTwo 0 = .ok (.iconst 0, 1) := by decide +kernel
theorem dX13_shortestTwo_1 : decode cX13_shortestTwo 1 = .ok (.istore_n 1, 1) := by decide +kernel
theorem dX13_shortestTwo_2 : decode cX13_shortestTwo 2 = .ok (.iload_n 1, 1) := by decide +kernel
theorem dX13_shortestTwo_3 : decode cX13_shortestTwo 3 = .ok (.sipush 1000, 3) := by decide +kernel
theorem dX13_shortestTwo_6 : decode cX13_shortestTwo 6 = .ok (.if_icmp .ge 18, 3) := by decide +kernel
theorem dX13_shortestTwo_9 : decode cX13_shortestTwo 9 = .ok (.aload_n 0, 1) := by decide +kernel
theorem dX13_shortestTwo_10 : decode cX13_shortestTwo 10 = .ok (.getfield 56, 3) := by decide +kernel
theorem dX13_shortestTwo_13 : decode cX13_shortestTwo 13 = .ok (.iload_n 1, 1) := by decide +kernel
theorem dX13_shortestTwo_14 : decode cX13_shortestTwo 14 = .ok (.ldc_w 412, 3) := by decide +kernel
theorem dX13_shortestTwo_17 : decode cX13_shortestTwo 17 = .ok (.iastore, 1) := by decide +kernel
theorem dX13_shortestTwo_18 : decode cX13_shortestTwo 18 = .ok (.iinc 1 1, 3) := by decide +kernel
theorem dX13_shortestTwo_21 : decode cX13_shortestTwo 21 = .ok (.goto (-19), 3) := by decide +kernel
theorem dX13_shortestTwo_24 : decode cX13_shortestTwo 24 = .ok (.iconst 0, 1) := by decide +kernel
theorem dX13_shortestTwo_25 : decode cX13_shortestTwo 25 = .ok (.istore_n 1, 1) := by decide +kernel
theorem dX13_shortestTwo_26 : decode cX13_shortestTwo 26 = .ok (.iload_n 1, 1) := by decide +kernel
theorem dX13_shortestTwo_27 : decode cX13_shortestTwo 27 = .ok (.aload_n 0, 1) := by decide +kernel
theorem dX13_shortestTwo_28 : decode cX13_shortestTwo 28 = .ok (.getfield 7, 3) := by decide +kernel
theorem dX13_shortestTwo_31 : decode cX13_shortestTwo 31 = .ok (.iconst 5, 1) := by decide +kernel
theorem dX13_shortestTwo_32 : decode cX13_shortestTwo 32 = .ok (.iaload, 1) := by decide +kernel
theorem dX13_shortestTwo_33 : decode cX13_shortestTwo 33 = .ok (.if_icmp .ge 94, 3) := by decide +kernel
theorem dX13_shortestTwo_36 : decode cX13_shortestTwo 36 = .ok (.iconst 0, 1) := by decide +kernel
theorem dX13_shortestTwo_37 : decode cX13_shortestTwo 37 = .ok (.istore_n 2, 1) := by decide +kernel
theorem dX13_shortestTwo_38 : decode cX13_shortestTwo 38 = .ok (.iload_n 2, 1) := by decide +kernel
theorem dX13_shortestTwo_39 : decode cX13_shortestTwo 39 = .ok (.aload_n 0, 1) := by decide +kernel
theorem dX13_shortestTwo_40 : decode cX13_shortestTwo 40 = .ok (.getfield 7, 3) := by decide +kernel
theorem dX13_shortestTwo_43 : decode cX13_shortestTwo 43 = .ok (.iconst 5, 1) := by decide +kernel
theorem dX13_shortestTwo_44 : decode cX13_shortestTwo 44 = .ok (.iaload, 1) := by decide +kernel
theorem dX13_shortestTwo_45 : decode cX13_shortestTwo 45 = .ok (.if_icmp .ge 76, 3) := by decide +kernel
theorem dX13_shortestTwo_48 : decode cX13_shortestTwo 48 = .ok (.aload_n 0, 1) := by decide +kernel
theorem dX13_shortestTwo_49 : decode cX13_shortestTwo 49 = .ok (.getfield 7, 3) := by decide +kernel
theorem dX13_shortestTwo_52 : decode cX13_shortestTwo 52 = .ok (.sipush 137, 3) := by decide +kernel
theorem dX13_shortestTwo_55 : decode cX13_shortestTwo 55 = .ok (.iload_n 1, 1) := by decide +kernel
theorem dX13_shortestTwo_56 : decode cX13_shortestTwo 56 = .ok (.iadd, 1) := by decide +kernel
theorem dX13_shortestTwo_57 : decode cX13_shortestTwo 57 = .ok (.iaload, 1) := by decide +kernel
theorem dX13_shortestTwo_58 : decode cX13_shortestTwo 58 = .ok (.aload_n 0, 1) := by decide +kernel
theorem dX13_shortestTwo_59 : decode cX13_shortestTwo 59 = .ok (.getfield 7, 3) := by decide +kernel
theorem dX13_shortestTwo_62 : decode cX13_shortestTwo 62 = .ok (.sipush 137, 3) := by decide +kernel
theorem dX13_shortestTwo_65 : decode cX13_shortestTwo 65 = .ok (.iload_n 2, 1) := by decide +kernel
theorem dX13_shortestTwo_66 : decode cX13_shortestTwo 66 = .ok (.iadd, 1) := by decide +kernel
theorem dX13_shortestTwo_67 : decode cX13_shortestTwo 67 = .ok (.iaload, 1) := by decide +kernel
theorem dX13_shortestTwo_68 : decode cX13_shortestTwo 68 = .ok (.invokestatic 454, 3) := by decide +kernel
theorem dX13_shortestTwo_71 : decode cX13_shortestTwo 71 = .ok (.ifCond .le 44, 3) := by decide +kernel
theorem dX13_shortestTwo_74 : decode cX13_shortestTwo 74 = .ok (.aload_n 0, 1) := by decide +kernel
theorem dX13_shortestTwo_75 : decode cX13_shortestTwo 75 = .ok (.aload_n 0, 1) := by decide +kernel
theorem dX13_shortestTwo_76 : decode cX13_shortestTwo 76 = .ok (.getfield 7, 3) := by decide +kernel
theorem dX13_shortestTwo_79 : decode cX13_shortestTwo 79 = .ok (.sipush 137, 3) := by decide +kernel
theorem dX13_shortestTwo_82 : decode cX13_shortestTwo 82 = .ok (.iload_n 1, 1) := by decide +kernel
theorem dX13_shortestTwo_83 : decode cX13_shortestTwo 83 = .ok (.iadd, 1) := by decide +kernel
theorem dX13_shortestTwo_84 : decode cX13_shortestTwo 84 = .ok (.iaload, 1) := by decide +kernel
theorem dX13_shortestTwo_85 : decode cX13_shortestTwo 85 = .ok (.aload_n 0, 1) := by decide +kernel
theorem dX13_shortestTwo_86 : decode cX13_shortestTwo 86 = .ok (.getfield 7, 3) := by decide +kernel
theorem dX13_shortestTwo_89 : decode cX13_shortestTwo 89 = .ok (.sipush 137, 3) := by decide +kernel
theorem dX13_shortestTwo_92 : decode cX13_shortestTwo 92 = .ok (.iload_n 2, 1) := by decide +kernel
theorem dX13_shortestTwo_93 : decode cX13_shortestTwo 93 = .ok (.iadd, 1) := by decide +kernel
theorem dX13_shortestTwo_94 : decode cX13_shortestTwo 94 = .ok (.iaload, 1) := by decide +kernel
theorem dX13_shortestTwo_95 : decode cX13_shortestTwo 95 = .ok (.invokestatic 454, 3) := by decide +kernel
theorem dX13_shortestTwo_98 : decode cX13_shortestTwo 98 = .ok (.aload_n 0, 1) := by decide +kernel
theorem dX13_shortestTwo_99 : decode cX13_shortestTwo 99 = .ok (.getfield 7, 3) := by decide +kernel
theorem dX13_shortestTwo_102 : decode cX13_shortestTwo 102 = .ok (.sipush 137, 3) := by decide +kernel
theorem dX13_shortestTwo_105 : decode cX13_shortestTwo 105 = .ok (.iload_n 1, 1) := by decide +kernel
theorem dX13_shortestTwo_106 : decode cX13_shortestTwo 106 = .ok (.iadd, 1) := by decide +kernel
theorem dX13_shortestTwo_107 : decode cX13_shortestTwo 107 = .ok (.iaload, 1) := by decide +kernel
theorem dX13_shortestTwo_108 : decode cX13_shortestTwo 108 = .ok (.invokestatic 448, 3) := by decide +kernel
theorem dX13_shortestTwo_111 : decode cX13_shortestTwo 111 = .ok (.invokevirtual 457, 3) := by decide +kernel
theorem dX13_shortestTwo_114 : decode cX13_shortestTwo 114 = .ok (.pop, 1) := by decide +kernel
theorem dX13_shortestTwo_115 : decode cX13_shortestTwo 115 = .ok (.iinc 2 1, 3) := by decide +kernel
theorem dX13_shortestTwo_118 : decode cX13_shortestTwo 118 = .ok (.goto (-80), 3) := by decide +kernel
theorem dX13_shortestTwo_121 : decode cX13_shortestTwo 121 = .ok (.iinc 1 1, 3) := by decide +kernel
theorem dX13_shortestTwo_124 : decode cX13_shortestTwo 124 = .ok (.goto (-98), 3) := by decide +kernel
theorem dX13_shortestTwo_127 : decode cX13_shortestTwo 127 = .ok (.iconst 1, 1) := by decide +kernel
theorem dX13_shortestTwo_128 : decode cX13_shortestTwo 128 = .ok (.istore_n 1, 1) := by decide +kernel
theorem dX13_shortestTwo_129 : decode cX13_shortestTwo 129 = .ok (.iload_n 1, 1) := by decide +kernel
theorem dX13_shortestTwo_130 : decode cX13_shortestTwo 130 = .ok (.ifCond .eq 43, 3) := by decide +kernel
theorem dX13_shortestTwo_133 : decode cX13_shortestTwo 133 = .ok (.iconst 0, 1) := by decide +kernel
theorem dX13_shortestTwo_134 : decode cX13_shortestTwo 134 = .ok (.istore_n 1, 1) := by decide +kernel
theorem dX13_shortestTwo_135 : decode cX13_shortestTwo 135 = .ok (.iconst 1, 1) := by decide +kernel
theorem dX13_shortestTwo_136 : decode cX13_shortestTwo 136 = .ok (.istore_n 2, 1) := by decide +kernel
theorem dX13_shortestTwo_137 : decode cX13_shortestTwo 137 = .ok (.iload_n 2, 1) := by decide +kernel
theorem dX13_shortestTwo_138 : decode cX13_shortestTwo 138 = .ok (.sipush 1000, 3) := by decide +kernel
theorem dX13_shortestTwo_141 : decode cX13_shortestTwo 141 = .ok (.if_icmp .ge 29, 3) := by decide +kernel
theorem dX13_shortestTwo_144 : decode cX13_shortestTwo 144 = .ok (.aload_n 0, 1) := by decide +kernel
theorem dX13_shortestTwo_145 : decode cX13_shortestTwo 145 = .ok (.getfield 56, 3) := by decide +kernel
theorem dX13_shortestTwo_148 : decode cX13_shortestTwo 148 = .ok (.iload_n 2, 1) := by decide +kernel
theorem dX13_shortestTwo_149 : decode cX13_shortestTwo 149 = .ok (.iaload, 1) := by decide +kernel
theorem dX13_shortestTwo_150 : decode cX13_shortestTwo 150 = .ok (.ldc_w 412, 3) := by decide +kernel
theorem dX13_shortestTwo_153 : decode cX13_shortestTwo 153 = .ok (.if_icmp .ge 11, 3) := by decide +kernel
theorem dX13_shortestTwo_156 : decode cX13_shortestTwo 156 = .ok (.iload_n 1, 1) := by decide +kernel
theorem dX13_shortestTwo_157 : decode cX13_shortestTwo 157 = .ok (.aload_n 0, 1) := by decide +kernel
theorem dX13_shortestTwo_158 : decode cX13_shortestTwo 158 = .ok (.iload_n 2, 1) := by decide +kernel
theorem dX13_shortestTwo_159 : decode cX13_shortestTwo 159 = .ok (.invokevirtual 460, 3) := by decide +kernel
theorem dX13_shortestTwo_162 : decode cX13_shortestTwo 162 = .ok (.ior, 1) := by decide +kernel
theorem dX13_shortestTwo_163 : decode cX13_shortestTwo 163 = .ok (.istore_n 1, 1) := by decide +kernel
theorem dX13_shortestTwo_164 : decode cX13_shortestTwo 164 = .ok (.iinc 2 1, 3) := by decide +kernel
theorem dX13_shortestTwo_167 : decode cX13_shortestTwo 167 = .ok (.goto (-30), 3) := by decide +kernel
theorem dX13_shortestTwo_170 : decode cX13_shortestTwo 170 = .ok (.goto (-41), 3) := by decide +kernel
theorem dX13_shortestTwo_173 : decode cX13_shortestTwo 173 = .ok (.ldc_w 412, 3) := by decide +kernel
theorem dX13_shortestTwo_176 : decode cX13_shortestTwo 176 = .ok (.istore_n 2, 1) := by decide +kernel
theorem dX13_shortestTwo_177 : decode cX13_shortestTwo 177 = .ok (.iconst 0, 1) := by decide +kernel
theorem dX13_shortestTwo_178 : decode cX13_shortestTwo 178 = .ok (.istore_n 3, 1) := by decide +kernel
theorem dX13_shortestTwo_179 : decode cX13_shortestTwo 179 = .ok (.iload_n 3, 1) := by decide +kernel
theorem dX13_shortestTwo_180 : decode cX13_shortestTwo 180 = .ok (.aload_n 0, 1) := by decide +kernel
theorem dX13_shortestTwo_181 : decode cX13_shortestTwo 181 = .ok (.getfield 7, 3) := by decide +kernel
theorem dX13_shortestTwo_184 : decode cX13_shortestTwo 184 = .ok (.iconst 5, 1) := by decide +kernel
theorem dX13_shortestTwo_185 : decode cX13_shortestTwo 185 = .ok (.iaload, 1) := by decide +kernel
theorem dX13_shortestTwo_186 : decode cX13_shortestTwo 186 = .ok (.if_icmp .ge 60, 3) := by decide +kernel
theorem dX13_shortestTwo_189 : decode cX13_shortestTwo 189 = .ok (.aload_n 0, 1) := by decide +kernel
theorem dX13_shortestTwo_190 : decode cX13_shortestTwo 190 = .ok (.getfield 7, 3) := by decide +kernel
theorem dX13_shortestTwo_193 : decode cX13_shortestTwo 193 = .ok (.sipush 137, 3) := by decide +kernel
theorem dX13_shortestTwo_196 : decode cX13_shortestTwo 196 = .ok (.iload_n 3, 1) := by decide +kernel
theorem dX13_shortestTwo_197 : decode cX13_shortestTwo 197 = .ok (.iadd, 1) := by decide +kernel
theorem dX13_shortestTwo_198 : decode cX13_shortestTwo 198 = .ok (.iaload, 1) := by decide +kernel
theorem dX13_shortestTwo_199 : decode cX13_shortestTwo 199 = .ok (.sipush 1000, 3) := by decide +kernel
theorem dX13_shortestTwo_202 : decode cX13_shortestTwo 202 = .ok (.if_icmp .ge 38, 3) := by decide +kernel
theorem dX13_shortestTwo_205 : decode cX13_shortestTwo 205 = .ok (.aload_n 0, 1) := by decide +kernel
theorem dX13_shortestTwo_206 : decode cX13_shortestTwo 206 = .ok (.getfield 56, 3) := by decide +kernel
theorem dX13_shortestTwo_209 : decode cX13_shortestTwo 209 = .ok (.aload_n 0, 1) := by decide +kernel
theorem dX13_shortestTwo_210 : decode cX13_shortestTwo 210 = .ok (.getfield 7, 3) := by decide +kernel
theorem dX13_shortestTwo_213 : decode cX13_shortestTwo 213 = .ok (.sipush 137, 3) := by decide +kernel
theorem dX13_shortestTwo_216 : decode cX13_shortestTwo 216 = .ok (.iload_n 3, 1) := by decide +kernel
theorem dX13_shortestTwo_217 : decode cX13_shortestTwo 217 = .ok (.iadd, 1) := by decide +kernel
theorem dX13_shortestTwo_218 : decode cX13_shortestTwo 218 = .ok (.iaload, 1) := by decide +kernel
theorem dX13_shortestTwo_219 : decode cX13_shortestTwo 219 = .ok (.iaload, 1) := by decide +kernel
theorem dX13_shortestTwo_220 : decode cX13_shortestTwo 220 = .ok (.iload_n 2, 1) := by decide +kernel
theorem dX13_shortestTwo_221 : decode cX13_shortestTwo 221 = .ok (.if_icmp .ge 19, 3) := by decide +kernel
theorem dX13_shortestTwo_224 : decode cX13_shortestTwo 224 = .ok (.aload_n 0, 1) := by decide +kernel
theorem dX13_shortestTwo_225 : decode cX13_shortestTwo 225 = .ok (.getfield 56, 3) := by decide +kernel
theorem dX13_shortestTwo_228 : decode cX13_shortestTwo 228 = .ok (.aload_n 0, 1) := by decide +kernel
theorem dX13_shortestTwo_229 : decode cX13_shortestTwo 229 = .ok (.getfield 7, 3) := by decide +kernel
theorem dX13_shortestTwo_232 : decode cX13_shortestTwo 232 = .ok (.sipush 137, 3) := by decide +kernel
theorem dX13_shortestTwo_235 : decode cX13_shortestTwo 235 = .ok (.iload_n 3, 1) := by decide +kernel
theorem dX13_shortestTwo_236 : decode cX13_shortestTwo 236 = .ok (.iadd, 1) := by decide +kernel
theorem dX13_shortestTwo_237 : decode cX13_shortestTwo 237 = .ok (.iaload, 1) := by decide +kernel
theorem dX13_shortestTwo_238 : decode cX13_shortestTwo 238 = .ok (.iaload, 1) := by decide +kernel
theorem dX13_shortestTwo_239 : decode cX13_shortestTwo 239 = .ok (.istore_n 2, 1) := by decide +kernel
theorem dX13_shortestTwo_240 : decode cX13_shortestTwo 240 = .ok (.iinc 3 1, 3) := by decide +kernel
theorem dX13_shortestTwo_243 : decode cX13_shortestTwo 243 = .ok (.goto (-64), 3) := by decide +kernel
theorem dX13_shortestTwo_246 : decode cX13_shortestTwo 246 = .ok (.iload_n 2, 1) := by decide +kernel
theorem dX13_shortestTwo_247 : decode cX13_shortestTwo 247 = .ok (.ireturn, 1) := by decide +kernel
theorem BX13_shortestTwo_0 {d bc bs : Nat} {h : aH} {n : Nat} {Q : aQ} {r0 : Option Nat} {l1 l2 l3 : Option aV} (k : Rn d bc bs mX13_shortestTwo 2 [some (vR r0), some (vI 0), l2, l3] [] h n Q) : Rn d (bc) (bs) mX13_shortestTwo 0 [some (vR r0), l1, l2, l3] [] h n Q := by
  refine Rn_iconst dX13_shortestTwo_0 rfl ?_
  refine Rn_istore_n dX13_shortestTwo_1 rfl (Nat.le_of_ble_eq_true rfl) rfl rfl ?_
  exact k
theorem BX13_shortestTwo_2 {d bc bs : Nat} {h : aH} {n : Nat} {Q : aQ} {r0 : Option Nat} {x1 : Int} {l2 l3 : Option aV} (kt : 1000 ≤ x1 → Rn d bc bs mX13_shortestTwo 24 [some (vR r0), some (vI x1), l2, l3] [] h n Q) (kf : x1 < 1000 → Rn d bc bs mX13_shortestTwo 9 [some (vR r0), some (vI x1), l2, l3] [] h n Q) : Rn d (bc) (bs) mX13_shortestTwo 2 [some (vR r0), some (vI x1), l2, l3] [] h n Q := by
  refine Rn_iload_n dX13_shortestTwo_2 rfl rfl ?_
  refine Rn_sipush dX13_shortestTwo_3 rfl ?_
  refine Rn_icmpge (tgt := 24) dX13_shortestTwo_6 rfl ?_ ?_
  · exact kt
  · exact kf
theorem BX13_shortestTwo_9 {d bc bs : Nat} {h : aH} {n : Nat} {Q : aQ} {ar0 at3 : Nat} {x1 : Int} {l2 l3 : Option aV} {f1 : List aV} {w5 : List Int} (h2 : h ar0 = cO 13 f1) (g4 : f1[30]? = some (vR (some at3))) (h6 : h at3 = cI w5) (i7 : 0 ≤ x1) (j8 : x1 < w5.length) (z9 : at3 ≠ 0) (k : Rn d bc bs mX13_shortestTwo 18 [some (vR (some ar0)), some (vI x1), l2, l3] [] (up h at3 (cI (w5.set (x1 : Int).toNat 1000000))) n Q) : Rn d (bc) (bs) mX13_shortestTwo 9 [some (vR (some ar0)), some (vI x1), l2, l3] [] h n Q := by
  refine Rn_aload_n dX13_shortestTwo_9 rfl rfl rfl ?_
  refine Rn_getfield (ci := 13) (k := 30) dX13_shortestTwo_10 rfl in_13 (Nat.le_of_ble_eq_true rfl) wd_1382 rfl h2 g4 ?_
  refine Rn_iload_n dX13_shortestTwo_13 rfl rfl ?_
  refine Rn_ldcw dX13_shortestTwo_14 wd_1894 rfl ?_
  refine Rn_iastore dX13_shortestTwo_17 z9 h6 i7 j8 ?_
  exact k
theorem BX13_shortestTwo_18 {d bc bs : Nat} {h : aH} {n : Nat} {Q : aQ} {r0 : Option Nat} {x1 : Int} {l2 l3 : Option aV} (b1 : -2147483648 ≤ x1 + 1 ∧ x1 + 1 < 2147483648) (k : Rn d bc bs mX13_shortestTwo 2 [some (vR r0), some (vI (x1 + 1)), l2, l3] [] h n Q) : Rn d (bc) (bs) mX13_shortestTwo 18 [some (vR r0), some (vI x1), l2, l3] [] h n Q := by
  refine Rn_iinc dX13_shortestTwo_18 rfl (Nat.le_of_ble_eq_true rfl) rfl rfl rfl ?_
  rw [w32_id b1.1 b1.2]
  refine Rn_goto (tgt := 2) dX13_shortestTwo_21 rfl ?_
  exact k
theorem BX13_shortestTwo_24 {d bc bs : Nat} {h : aH} {n : Nat} {Q : aQ} {r0 : Option Nat} {x1 : Int} {l2 l3 : Option aV} (k : Rn d bc bs mX13_shortestTwo 26 [some (vR r0), some (vI 0), l2, l3] [] h n Q) : Rn d (bc) (bs) mX13_shortestTwo 24 [some (vR r0), some (vI x1), l2, l3] [] h n Q := by
  refine Rn_iconst dX13_shortestTwo_24 rfl ?_
  refine Rn_istore_n dX13_shortestTwo_25 rfl (Nat.le_of_ble_eq_true rfl) rfl rfl ?_
  exact k
theorem BX13_shortestTwo_26 {d bc bs : Nat} {h : aH} {n : Nat} {Q : aQ} {ar0 at3 : Nat} {x1 v7 : Int} {l2 l3 : Option aV} {f1 : List aV} {w5 : List Int} (h2 : h ar0 = cO 13 f1) (g4 : f1[0]? = some (vR (some at3))) (h6 : h at3 = cI w5) (g8 : w5[(5 : Int).toNat]? = some v7) (kt : v7 ≤ x1 → Rn d bc bs mX13_shortestTwo 127 [some (vR (some ar0)), some (vI x1), l2, l3] [] h n Q) (kf : x1 < v7 → Rn d bc bs mX13_shortestTwo 36 [some (vR (some ar0)), some (vI x1), l2, l3] [] h n Q) : Rn d (bc) (bs) mX13_shortestTwo 26 [some (vR (some ar0)), some (vI x1), l2, l3] [] h n Q := by
  refine Rn_iload_n dX13_shortestTwo_26 rfl rfl ?_
  refine Rn_aload_n dX13_shortestTwo_27 rfl rfl rfl ?_
  refine Rn_getfield (ci := 13) (k := 0) dX13_shortestTwo_28 rfl in_13 (Nat.le_of_ble_eq_true rfl) wd_1352 rfl h2 g4 ?_
  refine Rn_iconst dX13_shortestTwo_31 rfl ?_
  refine Rn_iaload dX13_shortestTwo_32 h6 (by decide) g8 ?_
  refine Rn_icmpge (tgt := 127) dX13_shortestTwo_33 rfl ?_ ?_
  · exact kt
  · exact kf
theorem BX13_shortestTwo_36 {d bc bs : Nat} {h : aH} {n : Nat} {Q : aQ} {r0 : Option Nat} {x1 : Int} {l2 l3 : Option aV} (k : Rn d bc bs mX13_shortestTwo 38 [some (vR r0), some (vI x1), some (vI 0), l3] [] h n Q) : Rn d (bc) (bs) mX13_shortestTwo 36 [some (vR r0), some (vI x1), l2, l3] [] h n Q := by
  refine Rn_iconst dX13_shortestTwo_36 rfl ?_
  refine Rn_istore_n dX13_shortestTwo_37 rfl (Nat.le_of_ble_eq_true rfl) rfl rfl ?_
  exact k
theorem BX13_shortestTwo_38 {d bc bs : Nat} {h : aH} {n : Nat} {Q : aQ} {ar0 at3 : Nat} {x1 x2 v7 : Int} {l3 : Option aV} {f1 : List aV} {w5 : List Int} (h2 : h ar0 = cO 13 f1) (g4 : f1[0]? = some (vR (some at3))) (h6 : h at3 = cI w5) (g8 : w5[(5 : Int).toNat]? = some v7) (kt : v7 ≤ x2 → Rn d bc bs mX13_shortestTwo 121 [some (vR (some ar0)), some (vI x1), some (vI x2), l3] [] h n Q) (kf : x2 < v7 → Rn d bc bs mX13_shortestTwo 48 [some (vR (some ar0)), some (vI x1), some (vI x2), l3] [] h n Q) : Rn d (bc) (bs) mX13_shortestTwo 38 [some (vR (some ar0)), some (vI x1), some (vI x2), l3] [] h n Q := by
  refine Rn_iload_n dX13_shortestTwo_38 rfl rfl ?_
  refine Rn_aload_n dX13_shortestTwo_39 rfl rfl rfl ?_
  refine Rn_getfield (ci := 13) (k := 0) dX13_shortestTwo_40 rfl in_13 (Nat.le_of_ble_eq_true rfl) wd_1352 rfl h2 g4 ?_
  refine Rn_iconst dX13_shortestTwo_43 rfl ?_
  refine Rn_iaload dX13_shortestTwo_44 h6 (by decide) g8 ?_
  refine Rn_icmpge (tgt := 121) dX13_shortestTwo_45 rfl ?_ ?_
  · exact kt
  · exact kf
theorem BX13_shortestTwo_48 {d bc bs : Nat} {h : aH} {n : Nat} {Q : aQ} {ar0 at3 : Nat} {x1 x2 v8 v12 : Int} {l3 : Option aV} {f1 : List aV} {w6 : List Int} (h2 : h ar0 = cO 13 f1) (g4 : f1[0]? = some (vR (some at3))) (b5 : -2147483648 ≤ 137 + x1 ∧ 137 + x1 < 2147483648) (h7 : h at3 = cI w6) (i9 : 0 ≤ 137 + x1) (g10 : w6[(137 + x1 : Int).toNat]? = some v8) (b11 : -2147483648 ≤ 137 + x2 ∧ 137 + x2 < 2147483648) (i13 : 0 ≤ 137 + x2) (g14 : w6[(137 + x2 : Int).toNat]? = some v12) (k : Rn d 0 0 mX13_restOf 0 [some (vI v8), some (vI v12), none] [] h n (fun v h1 n1 => Rn (d + 1) bc bs mX13_shortestTwo 71 [some (vR (some ar0)), some (vI x1), some (vI x2), l3] (v.toList ++ []) h1 n1 Q)) : Rn (d + 1) (bc) (bs) mX13_shortestTwo 48 [some (vR (some ar0)), some (vI x1), some (vI x2), l3] [] h n Q := by
  refine Rn_aload_n dX13_shortestTwo_48 rfl rfl rfl ?_
  refine Rn_getfield (ci := 13) (k := 0) dX13_shortestTwo_49 rfl in_13 (Nat.le_of_ble_eq_true rfl) wd_1352 rfl h2 g4 ?_
  refine Rn_sipush dX13_shortestTwo_52 rfl ?_
  refine Rn_iload_n dX13_shortestTwo_55 rfl rfl ?_
  refine Rn_iadd dX13_shortestTwo_56 ?_
  rw [w32_id b5.1 b5.2]
  refine Rn_iaload dX13_shortestTwo_57 h7 i9 g10 ?_
  refine Rn_aload_n dX13_shortestTwo_58 rfl rfl rfl ?_
  refine Rn_getfield (ci := 13) (k := 0) dX13_shortestTwo_59 rfl in_13 (Nat.le_of_ble_eq_true rfl) wd_1352 rfl h2 g4 ?_
  refine Rn_sipush dX13_shortestTwo_62 rfl ?_
  refine Rn_iload_n dX13_shortestTwo_65 rfl rfl ?_
  refine Rn_iadd dX13_shortestTwo_66 ?_
  rw [w32_id b11.1 b11.2]
  refine Rn_iaload dX13_shortestTwo_67 h7 i13 g14 ?_
  exact Rn_callS (avs := [vI v8, vI v12]) (st := []) (bc1 := 0) (bs1 := 0) (bc2 := bc) (bs2 := bs) fx_X13_restOf dX13_shortestTwo_68 (Or.inl wd_1951) wd_1952 rfl (Nat.le_of_ble_eq_true rfl) (Nat.le_of_ble_eq_true rfl) (by omega) (by omega) (ls1 := [some (vI v8), some (vI v12), none]) rfl k
theorem BX13_shortestTwo_71 {d bc bs : Nat} {h : aH} {n : Nat} {Q : aQ} {r0 : Option Nat} {x1 x2 s0 : Int} {l3 : Option aV} (kt : s0 ≤ 0 → Rn d bc bs mX13_shortestTwo 115 [some (vR r0), some (vI x1), some (vI x2), l3] [] h n Q) (kf : 0 < s0 → Rn d bc bs mX13_shortestTwo 74 [some (vR r0), some (vI x1), some (vI x2), l3] [] h n Q) : Rn d (bc) (bs) mX13_shortestTwo 71 [some (vR r0), some (vI x1), some (vI x2), l3] [vI s0] h n Q := by
  refine Rn_ifle (tgt := 115) dX13_shortestTwo_71 rfl ?_ ?_
  · exact kt
  · exact kf
theorem BX13_shortestTwo_74 {d bc bs : Nat} {h : aH} {n : Nat} {Q : aQ} {ar0 at3 : Nat} {x1 x2 v8 v12 : Int} {l3 : Option aV} {f1 : List aV} {w6 : List Int} (h2 : h ar0 = cO 13 f1) (g4 : f1[0]? = some (vR (some at3))) (b5 : -2147483648 ≤ 137 + x1 ∧ 137 + x1 < 2147483648) (h7 : h at3 = cI w6) (i9 : 0 ≤ 137 + x1) (g10 : w6[(137 + x1 : Int).toNat]? = some v8) (b11 : -2147483648 ≤ 137 + x2 ∧ 137 + x2 < 2147483648) (i13 : 0 ≤ 137 + x2) (g14 : w6[(137 + x2 : Int).toNat]? = some v12) (k : Rn d 0 0 mX13_restOf 0 [some (vI v8), some (vI v12), none] [] h n (fun v h1 n1 => Rn (d + 1) bc bs mX13_shortestTwo 98 [some (vR (some ar0)), some (vI x1), some (vI x2), l3] (v.toList ++ [vR (some ar0)]) h1 n1 Q)) : Rn (d + 1) (bc) (bs) mX13_shortestTwo 74 [some (vR (some ar0)), some (vI x1), some (vI x2), l3] [] h n Q := by
  refine Rn_aload_n dX13_shortestTwo_74 rfl rfl rfl ?_
  refine Rn_aload_n dX13_shortestTwo_75 rfl rfl rfl ?_
  refine Rn_getfield (ci := 13) (k := 0) dX13_shortestTwo_76 rfl in_13 (Nat.le_of_ble_eq_true rfl) wd_1352 rfl h2 g4 ?_
  refine Rn_sipush dX13_shortestTwo_79 rfl ?_
  refine Rn_iload_n dX13_shortestTwo_82 rfl rfl ?_
  refine Rn_iadd dX13_shortestTwo_83 ?_
  rw [w32_id b5.1 b5.2]
  refine Rn_iaload dX13_shortestTwo_84 h7 i9 g10 ?_
  refine Rn_aload_n dX13_shortestTwo_85 rfl rfl rfl ?_
  refine Rn_getfield (ci := 13) (k := 0) dX13_shortestTwo_86 rfl in_13 (Nat.le_of_ble_eq_true rfl) wd_1352 rfl h2 g4 ?_
  refine Rn_sipush dX13_shortestTwo_89 rfl ?_
  refine Rn_iload_n dX13_shortestTwo_92 rfl rfl ?_
  refine Rn_iadd dX13_shortestTwo_93 ?_
  rw [w32_id b11.1 b11.2]
  refine Rn_iaload dX13_shortestTwo_94 h7 i13 g14 ?_
  exact Rn_callS (avs := [vI v8, vI v12]) (st := [vR (some ar0)]) (bc1 := 0) (bs1 := 0) (bc2 := bc) (bs2 := bs) fx_X13_restOf dX13_shortestTwo_95 (Or.inl wd_1951) wd_1952 rfl (Nat.le_of_ble_eq_true rfl) (Nat.le_of_ble_eq_true rfl) (by omega) (by omega) (ls1 := [some (vI v8), some (vI v12), none]) rfl k
theorem BX13_shortestTwo_98 {d bc bs : Nat} {h : aH} {n : Nat} {Q : aQ} {ar0 at3 : Nat} {x1 x2 s1 v8 : Int} {l3 : Option aV} {q0 : Option Nat} {f1 : List aV} {w6 : List Int} (h2 : h ar0 = cO 13 f1) (g4 : f1[0]? = some (vR (some at3))) (b5 : -2147483648 ≤ 137 + x1 ∧ 137 + x1 < 2147483648) (h7 : h at3 = cI w6) (i9 : 0 ≤ 137 + x1) (g10 : w6[(137 + x1 : Int).toNat]? = some v8) (k : Rn d 0 0 mX13_longOf 0 [some (vI v8)] [] h n (fun v h1 n1 => Rn (d + 1) bc bs mX13_shortestTwo 111 [some (vR (some ar0)), some (vI x1), some (vI x2), l3] (v.toList ++ [vI s1, vR q0]) h1 n1 Q)) : Rn (d + 1) (bc) (bs) mX13_shortestTwo 98 [some (vR (some ar0)), some (vI x1), some (vI x2), l3] [vI s1, vR q0] h n Q := by
  refine Rn_aload_n dX13_shortestTwo_98 rfl rfl rfl ?_
  refine Rn_getfield (ci := 13) (k := 0) dX13_shortestTwo_99 rfl in_13 (Nat.le_of_ble_eq_true rfl) wd_1352 rfl h2 g4 ?_
  refine Rn_sipush dX13_shortestTwo_102 rfl ?_
  refine Rn_iload_n dX13_shortestTwo_105 rfl rfl ?_
  refine Rn_iadd dX13_shortestTwo_106 ?_
  rw [w32_id b5.1 b5.2]
  refine Rn_iaload dX13_shortestTwo_107 h7 i9 g10 ?_
  exact Rn_callS (avs := [vI v8]) (st := [vI s1, vR q0]) (bc1 := 0) (bs1 := 0) (bc2 := bc) (bs2 := bs) fx_X13_longOf dX13_shortestTwo_108 (Or.inl wd_1954) wd_1955 rfl (Nat.le_of_ble_eq_true rfl) (Nat.le_of_ble_eq_true rfl) (by omega) (by omega) (ls1 := [some (vI v8)]) rfl k
theorem BX13_shortestTwo_111 {d bc bs : Nat} {h : aH} {n : Nat} {Q : aQ} {r0 : Option Nat} {x1 x2 s1 s2 : Int} {l3 : Option aV} {aq0 : Nat} {f1 : List aV} (h2 : h aq0 = cO 13 f1) (k : Rn d 0 0 mX13_isShorter 0 [some (vR (some aq0)), some (vI s1), some (vI s2)] [] h n (fun v h1 n1 => Rn (d + 1) bc bs mX13_shortestTwo 114 [some (vR r0), some (vI x1), some (vI x2), l3] (v.toList ++ []) h1 n1 Q)) : Rn (d + 1) (bc) (bs) mX13_shortestTwo 111 [some (vR r0), some (vI x1), some (vI x2), l3] [vI s2, vI s1, vR (some aq0)] h n Q := by
  exact Rn_callV (ci := 13) (avs := [vI s1, vI s2]) (st := []) (bc1 := 0) (bs1 := 0) (bc2 := bc) (bs2 := bs) fx_X13_isShorter dX13_shortestTwo_111 wd_1960 wd_1962 wd_115 rfl h2 rfl (Nat.le_of_ble_eq_true rfl) (Nat.le_of_ble_eq_true rfl) (by omega) (by omega) (ls1 := [some (vR (some aq0)), some (vI s1), some (vI s2)]) rfl k
theorem BX13_shortestTwo_114 {d bc bs : Nat} {h : aH} {n : Nat} {Q : aQ} {r0 : Option Nat} {x1 x2 s0 : Int} {l3 : Option aV} (b1 : -2147483648 ≤ x2 + 1 ∧ x2 + 1 < 2147483648) (k : Rn d bc bs mX13_shortestTwo 38 [some (vR r0), some (vI x1), some (vI (x2 + 1)), l3] [] h n Q) : Rn d (bc) (bs) mX13_shortestTwo 114 [some (vR r0), some (vI x1), some (vI x2), l3] [vI s0] h n Q := by
  refine Rn_pop dX13_shortestTwo_114 rfl ?_
  refine Rn_iinc dX13_shortestTwo_115 rfl (Nat.le_of_ble_eq_true rfl) rfl rfl rfl ?_
  rw [w32_id b1.1 b1.2]
  refine Rn_goto (tgt := 38) dX13_shortestTwo_118 rfl ?_
  exact k
theorem BX13_shortestTwo_115 {d bc bs : Nat} {h : aH} {n : Nat} {Q : aQ} {r0 : Option Nat} {x1 x2 : Int} {l3 : Option aV} (b1 : -2147483648 ≤ x2 + 1 ∧ x2 + 1 < 2147483648) (k : Rn d bc bs mX13_shortestTwo 38 [some (vR r0), some (vI x1), some (vI (x2 + 1)), l3] [] h n Q) : Rn d (bc) (bs) mX13_shortestTwo 115 [some (vR r0), some (vI x1), some (vI x2), l3] [] h n Q := by
  refine Rn_iinc dX13_shortestTwo_115 rfl (Nat.le_of_ble_eq_true rfl) rfl rfl rfl ?_
  rw [w32_id b1.1 b1.2]
  refine Rn_goto (tgt := 38) dX13_shortestTwo_118 rfl ?_
  exact k
theorem BX13_shortestTwo_121 {d bc bs : Nat} {h : aH} {n : Nat} {Q : aQ} {r0 : Option Nat} {x1 x2 : Int} {l3 : Option aV} (b1 : -2147483648 ≤ x1 + 1 ∧ x1 + 1 < 2147483648) (k : Rn d bc bs mX13_shortestTwo 26 [some (vR r0), some (vI (x1 + 1)), some (vI x2), l3] [] h n Q) : Rn d (bc) (bs) mX13_shortestTwo 121 [some (vR r0), some (vI x1), some (vI x2), l3] [] h n Q := by
  refine Rn_iinc dX13_shortestTwo_121 rfl (Nat.le_of_ble_eq_true rfl) rfl rfl rfl ?_
  rw [w32_id b1.1 b1.2]
  refine Rn_goto (tgt := 26) dX13_shortestTwo_124 rfl ?_
  exact k
theorem BX13_shortestTwo_127 {d bc bs : Nat} {h : aH} {n : Nat} {Q : aQ} {r0 : Option Nat} {x1 : Int} {l2 l3 : Option aV} (k : Rn d bc bs mX13_shortestTwo 129 [some (vR r0), some (vI 1), l2, l3] [] h n Q) : Rn d (bc) (bs) mX13_shortestTwo 127 [some (vR r0), some (vI x1), l2, l3] [] h n Q := by
  refine Rn_iconst dX13_shortestTwo_127 rfl ?_
  refine Rn_istore_n dX13_shortestTwo_128 rfl (Nat.le_of_ble_eq_true rfl) rfl rfl ?_
  exact k
theorem BX13_shortestTwo_129 {d bc bs : Nat} {h : aH} {n : Nat} {Q : aQ} {r0 : Option Nat} {x1 : Int} {l2 l3 : Option aV} (kt : x1 = 0 → Rn d bc bs mX13_shortestTwo 173 [some (vR r0), some (vI x1), l2, l3] [] h n Q) (kf : x1 ≠ 0 → Rn d bc bs mX13_shortestTwo 133 [some (vR r0), some (vI x1), l2, l3] [] h n Q) : Rn d (bc) (bs) mX13_shortestTwo 129 [some (vR r0), some (vI x1), l2, l3] [] h n Q := by
  refine Rn_iload_n dX13_shortestTwo_129 rfl rfl ?_
  refine Rn_ifeq (tgt := 173) dX13_shortestTwo_130 rfl ?_ ?_
  · exact kt
  · exact kf
theorem BX13_shortestTwo_133 {d bc bs : Nat} {h : aH} {n : Nat} {Q : aQ} {r0 : Option Nat} {x1 : Int} {l2 l3 : Option aV} (k : Rn d bc bs mX13_shortestTwo 137 [some (vR r0), some (vI 0), some (vI 1), l3] [] h n Q) : Rn d (bc) (bs) mX13_shortestTwo 133 [some (vR r0), some (vI x1), l2, l3] [] h n Q := by
  refine Rn_iconst dX13_shortestTwo_133 rfl ?_
  refine Rn_istore_n dX13_shortestTwo_134 rfl (Nat.le_of_ble_eq_true rfl) rfl rfl ?_
  refine Rn_iconst dX13_shortestTwo_135 rfl ?_
  refine Rn_istore_n dX13_shortestTwo_136 rfl (Nat.le_of_ble_eq_true rfl) rfl rfl ?_
  exact k
theorem BX13_shortestTwo_137 {d bc bs : Nat} {h : aH} {n : Nat} {Q : aQ} {r0 : Option Nat} {x1 x2 : Int} {l3 : Option aV} (kt : 1000 ≤ x2 → Rn d bc bs mX13_shortestTwo 170 [some (vR r0), some (vI x1), some (vI x2), l3] [] h n Q) (kf : x2 < 1000 → Rn d bc bs mX13_shortestTwo 144 [some (vR r0), some (vI x1), some (vI x2), l3] [] h n Q) : Rn d (bc) (bs) mX13_shortestTwo 137 [some (vR r0), some (vI x1), some (vI x2), l3] [] h n Q := by
  refine Rn_iload_n dX13_shortestTwo_137 rfl rfl ?_
  refine Rn_sipush dX13_shortestTwo_138 rfl ?_
  refine Rn_icmpge (tgt := 170) dX13_shortestTwo_141 rfl ?_ ?_
  · exact kt
  · exact kf
theorem BX13_shortestTwo_144 {d bc bs : Nat} {h : aH} {n : Nat} {Q : aQ} {ar0 at3 : Nat} {x1 x2 v7 : Int} {l3 : Option aV} {f1 : List aV} {w5 : List Int} (h2 : h ar0 = cO 13 f1) (g4 : f1[30]? = some (vR (some at3))) (h6 : h at3 = cI w5) (i8 : 0 ≤ x2) (g9 : w5[(x2 : Int).toNat]? = some v7) (kt : 1000000 ≤ v7 → Rn d bc bs mX13_shortestTwo 164 [some (vR (some ar0)), some (vI x1), some (vI x2), l3] [] h n Q) (kf : v7 < 1000000 → Rn d bc bs mX13_shortestTwo 156 [some (vR (some ar0)), some (vI x1), some (vI x2), l3] [] h n Q) : Rn d (bc) (bs) mX13_shortestTwo 144 [some (vR (some ar0)), some (vI x1), some (vI x2), l3] [] h n Q := by
  refine Rn_aload_n dX13_shortestTwo_144 rfl rfl rfl ?_
  refine Rn_getfield (ci := 13) (k := 30) dX13_shortestTwo_145 rfl in_13 (Nat.le_of_ble_eq_true rfl) wd_1382 rfl h2 g4 ?_
  refine Rn_iload_n dX13_shortestTwo_148 rfl rfl ?_
  refine Rn_iaload dX13_shortestTwo_149 h6 i8 g9 ?_
  refine Rn_ldcw dX13_shortestTwo_150 wd_1894 rfl ?_
  refine Rn_icmpge (tgt := 164) dX13_shortestTwo_153 rfl ?_ ?_
  · exact kt
  · exact kf
theorem BX13_shortestTwo_156 {d bc bs : Nat} {h : aH} {n : Nat} {Q : aQ} {ar0 : Nat} {x1 x2 : Int} {l3 : Option aV} {f1 : List aV} (h2 : h ar0 = cO 13 f1) (k : Rn d 0 0 mX13_isSpread 0 [some (vR (some ar0)), some (vI x2), none, none, none, none, none] [] h n (fun v h1 n1 => Rn (d + 1) bc bs mX13_shortestTwo 162 [some (vR (some ar0)), some (vI x1), some (vI x2), l3] (v.toList ++ [vI x1]) h1 n1 Q)) : Rn (d + 1) (bc) (bs) mX13_shortestTwo 156 [some (vR (some ar0)), some (vI x1), some (vI x2), l3] [] h n Q := by
  refine Rn_iload_n dX13_shortestTwo_156 rfl rfl ?_
  refine Rn_aload_n dX13_shortestTwo_157 rfl rfl rfl ?_
  refine Rn_iload_n dX13_shortestTwo_158 rfl rfl ?_
  exact Rn_callV (ci := 13) (avs := [vI x2]) (st := [vI x1]) (bc1 := 0) (bs1 := 0) (bc2 := bc) (bs2 := bs) fx_X13_isSpread dX13_shortestTwo_159 wd_1964 wd_1966 wd_116 rfl h2 rfl (Nat.le_of_ble_eq_true rfl) (Nat.le_of_ble_eq_true rfl) (by omega) (by omega) (ls1 := [some (vR (some ar0)), some (vI x2), none, none, none, none, none]) rfl k
theorem BX13_shortestTwo_162 {d bc bs : Nat} {h : aH} {n : Nat} {Q : aQ} {r0 : Option Nat} {x1 x2 s0 s1 : Int} {l3 : Option aV} (b1 : -2147483648 ≤ x2 + 1 ∧ x2 + 1 < 2147483648) (k : Rn d bc bs mX13_shortestTwo 137 [some (vR r0), some (vI (or32 s0 s1)), some (vI (x2 + 1)), l3] [] h n Q) : Rn d (bc) (bs) mX13_shortestTwo 162 [some (vR r0), some (vI x1), some (vI x2), l3] [vI s1, vI s0] h n Q := by
  refine Rn_ior dX13_shortestTwo_162 ?_
  refine Rn_istore_n dX13_shortestTwo_163 rfl (Nat.le_of_ble_eq_true rfl) rfl rfl ?_
  refine Rn_iinc dX13_shortestTwo_164 rfl (Nat.le_of_ble_eq_true rfl) rfl rfl rfl ?_
  rw [w32_id b1.1 b1.2]
  refine Rn_goto (tgt := 137) dX13_shortestTwo_167 rfl ?_
  exact k
theorem BX13_shortestTwo_164 {d bc bs : Nat} {h : aH} {n : Nat} {Q : aQ} {r0 : Option Nat} {x1 x2 : Int} {l3 : Option aV} (b1 : -2147483648 ≤ x2 + 1 ∧ x2 + 1 < 2147483648) (k : Rn d bc bs mX13_shortestTwo 137 [some (vR r0), some (vI x1), some (vI (x2 + 1)), l3] [] h n Q) : Rn d (bc) (bs) mX13_shortestTwo 164 [some (vR r0), some (vI x1), some (vI x2), l3] [] h n Q := by
  refine Rn_iinc dX13_shortestTwo_164 rfl (Nat.le_of_ble_eq_true rfl) rfl rfl rfl ?_
  rw [w32_id b1.1 b1.2]
  refine Rn_goto (tgt := 137) dX13_shortestTwo_167 rfl ?_
  exact k
theorem BX13_shortestTwo_170 {d bc bs : Nat} {h : aH} {n : Nat} {Q : aQ} {r0 : Option Nat} {x1 x2 : Int} {l3 : Option aV} (k : Rn d bc bs mX13_shortestTwo 129 [some (vR r0), some (vI x1), some (vI x2), l3] [] h n Q) : Rn d (bc) (bs) mX13_shortestTwo 170 [some (vR r0), some (vI x1), some (vI x2), l3] [] h n Q := by
  refine Rn_goto (tgt := 129) dX13_shortestTwo_170 rfl ?_
  exact k
theorem BX13_shortestTwo_173 {d bc bs : Nat} {h : aH} {n : Nat} {Q : aQ} {r0 : Option Nat} {x1 : Int} {l2 l3 : Option aV} (k : Rn d bc bs mX13_shortestTwo 179 [some (vR r0), some (vI x1), some (vI 1000000), some (vI 0)] [] h n Q) : Rn d (bc) (bs) mX13_shortestTwo 173 [some (vR r0), some (vI x1), l2, l3] [] h n Q := by
  refine Rn_ldcw dX13_shortestTwo_173 wd_1894 rfl ?_
  refine Rn_istore_n dX13_shortestTwo_176 rfl (Nat.le_of_ble_eq_true rfl) rfl rfl ?_
  refine Rn_iconst dX13_shortestTwo_177 rfl ?_
  refine Rn_istore_n dX13_shortestTwo_178 rfl (Nat.le_of_ble_eq_true rfl) rfl rfl ?_
  exact k
theorem BX13_shortestTwo_179 {d bc bs : Nat} {h : aH} {n : Nat} {Q : aQ} {ar0 at3 : Nat} {x1 x2 x3 v7 : Int} {f1 : List aV} {w5 : List Int} (h2 : h ar0 = cO 13 f1) (g4 : f1[0]? = some (vR (some at3))) (h6 : h at3 = cI w5) (g8 : w5[(5 : Int).toNat]? = some v7) (kt : v7 ≤ x3 → Rn d bc bs mX13_shortestTwo 246 [some (vR (some ar0)), some (vI x1), some (vI x2), some (vI x3)] [] h n Q) (kf : x3 < v7 → Rn d bc bs mX13_shortestTwo 189 [some (vR (some ar0)), some (vI x1), some (vI x2), some (vI x3)] [] h n Q) : Rn d (bc) (bs) mX13_shortestTwo 179 [some (vR (some ar0)), some (vI x1), some (vI x2), some (vI x3)] [] h n Q := by
  refine Rn_iload_n dX13_shortestTwo_179 rfl rfl ?_
  refine Rn_aload_n dX13_shortestTwo_180 rfl rfl rfl ?_
  refine Rn_getfield (ci := 13) (k := 0) dX13_shortestTwo_181 rfl in_13 (Nat.le_of_ble_eq_true rfl) wd_1352 rfl h2 g4 ?_
  refine Rn_iconst dX13_shortestTwo_184 rfl ?_
  refine Rn_iaload dX13_shortestTwo_185 h6 (by decide) g8 ?_
  refine Rn_icmpge (tgt := 246) dX13_shortestTwo_186 rfl ?_ ?_
  · exact kt
  · exact kf
theorem BX13_shortestTwo_189 {d bc bs : Nat} {h : aH} {n : Nat} {Q : aQ} {ar0 at3 : Nat} {x1 x2 x3 v8 : Int} {f1 : List aV} {w6 : List Int} (h2 : h ar0 = cO 13 f1) (g4 : f1[0]? = some (vR (some at3))) (b5 : -2147483648 ≤ 137 + x3 ∧ 137 + x3 < 2147483648) (h7 : h at3 = cI w6) (i9 : 0 ≤ 137 + x3) (g10 : w6[(137 + x3 : Int).toNat]? = some v8) (kt : 1000 ≤ v8 → Rn d bc bs mX13_shortestTwo 240 [some (vR (some ar0)), some (vI x1), some (vI x2), some (vI x3)] [] h n Q) (kf : v8 < 1000 → Rn d bc bs mX13_shortestTwo 205 [some (vR (some ar0)), some (vI x1), some (vI x2), some (vI x3)] [] h n Q) : Rn d (bc) (bs) mX13_shortestTwo 189 [some (vR (some ar0)), some (vI x1), some (vI x2), some (vI x3)] [] h n Q := by
  refine Rn_aload_n dX13_shortestTwo_189 rfl rfl rfl ?_
  refine Rn_getfield (ci := 13) (k := 0) dX13_shortestTwo_190 rfl in_13 (Nat.le_of_ble_eq_true rfl) wd_1352 rfl h2 g4 ?_
  refine Rn_sipush dX13_shortestTwo_193 rfl ?_
  refine Rn_iload_n dX13_shortestTwo_196 rfl rfl ?_
  refine Rn_iadd dX13_shortestTwo_197 ?_
  rw [w32_id b5.1 b5.2]
  refine Rn_iaload dX13_shortestTwo_198 h7 i9 g10 ?_
  refine Rn_sipush dX13_shortestTwo_199 rfl ?_
  refine Rn_icmpge (tgt := 240) dX13_shortestTwo_202 rfl ?_ ?_
  · exact kt
  · exact kf
theorem BX13_shortestTwo_205 {d bc bs : Nat} {h : aH} {n : Nat} {Q : aQ} {ar0 at3 at5 : Nat} {x1 x2 x3 v10 v15 : Int} {f1 : List aV} {w8 w13 : List Int} (h2 : h ar0 = cO 13 f1) (g4 : f1[30]? = some (vR (some at3))) (g6 : f1[0]? = some (vR (some at5))) (b7 : -2147483648 ≤ 137 + x3 ∧ 137 + x3 < 2147483648) (h9 : h at5 = cI w8) (i11 : 0 ≤ 137 + x3) (g12 : w8[(137 + x3 : Int).toNat]? = some v10) (h14 : h at3 = cI w13) (i16 : 0 ≤ v10) (g17 : w13[(v10 : Int).toNat]? = some v15) (kt : x2 ≤ v15 → Rn d bc bs mX13_shortestTwo 240 [some (vR (some ar0)), some (vI x1), some (vI x2), some (vI x3)] [] h n Q) (kf : v15 < x2 → Rn d bc bs mX13_shortestTwo 224 [some (vR (some ar0)), some (vI x1), some (vI x2), some (vI x3)] [] h n Q) : Rn d (bc) (bs) mX13_shortestTwo 205 [some (vR (some ar0)), some (vI x1), some (vI x2), some (vI x3)] [] h n Q := by
  refine Rn_aload_n dX13_shortestTwo_205 rfl rfl rfl ?_
  refine Rn_getfield (ci := 13) (k := 30) dX13_shortestTwo_206 rfl in_13 (Nat.le_of_ble_eq_true rfl) wd_1382 rfl h2 g4 ?_
  refine Rn_aload_n dX13_shortestTwo_209 rfl rfl rfl ?_
  refine Rn_getfield (ci := 13) (k := 0) dX13_shortestTwo_210 rfl in_13 (Nat.le_of_ble_eq_true rfl) wd_1352 rfl h2 g6 ?_
  refine Rn_sipush dX13_shortestTwo_213 rfl ?_
  refine Rn_iload_n dX13_shortestTwo_216 rfl rfl ?_
  refine Rn_iadd dX13_shortestTwo_217 ?_
  rw [w32_id b7.1 b7.2]
  refine Rn_iaload dX13_shortestTwo_218 h9 i11 g12 ?_
  refine Rn_iaload dX13_shortestTwo_219 h14 i16 g17 ?_
  refine Rn_iload_n dX13_shortestTwo_220 rfl rfl ?_
  refine Rn_icmpge (tgt := 240) dX13_shortestTwo_221 rfl ?_ ?_
  · exact kt
  · exact kf
theorem BX13_shortestTwo_224 {d bc bs : Nat} {h : aH} {n : Nat} {Q : aQ} {ar0 at3 at5 : Nat} {x1 x2 x3 v10 v15 : Int} {f1 : List aV} {w8 w13 : List Int} (h2 : h ar0 = cO 13 f1) (g4 : f1[30]? = some (vR (some at3))) (g6 : f1[0]? = some (vR (some at5))) (b7 : -2147483648 ≤ 137 + x3 ∧ 137 + x3 < 2147483648) (h9 : h at5 = cI w8) (i11 : 0 ≤ 137 + x3) (g12 : w8[(137 + x3 : Int).toNat]? = some v10) (h14 : h at3 = cI w13) (i16 : 0 ≤ v10) (g17 : w13[(v10 : Int).toNat]? = some v15) (b18 : -2147483648 ≤ x3 + 1 ∧ x3 + 1 < 2147483648) (k : Rn d bc bs mX13_shortestTwo 179 [some (vR (some ar0)), some (vI x1), some (vI v15), some (vI (x3 + 1))] [] h n Q) : Rn d (bc) (bs) mX13_shortestTwo 224 [some (vR (some ar0)), some (vI x1), some (vI x2), some (vI x3)] [] h n Q := by
  refine Rn_aload_n dX13_shortestTwo_224 rfl rfl rfl ?_
  refine Rn_getfield (ci := 13) (k := 30) dX13_shortestTwo_225 rfl in_13 (Nat.le_of_ble_eq_true rfl) wd_1382 rfl h2 g4 ?_
  refine Rn_aload_n dX13_shortestTwo_228 rfl rfl rfl ?_
  refine Rn_getfield (ci := 13) (k := 0) dX13_shortestTwo_229 rfl in_13 (Nat.le_of_ble_eq_true rfl) wd_1352 rfl h2 g6 ?_
  refine Rn_sipush dX13_shortestTwo_232 rfl ?_
  refine Rn_iload_n dX13_shortestTwo_235 rfl rfl ?_
  refine Rn_iadd dX13_shortestTwo_236 ?_
  rw [w32_id b7.1 b7.2]
  refine Rn_iaload dX13_shortestTwo_237 h9 i11 g12 ?_
  refine Rn_iaload dX13_shortestTwo_238 h14 i16 g17 ?_
  refine Rn_istore_n dX13_shortestTwo_239 rfl (Nat.le_of_ble_eq_true rfl) rfl rfl ?_
  refine Rn_iinc dX13_shortestTwo_240 rfl (Nat.le_of_ble_eq_true rfl) rfl rfl rfl ?_
  rw [w32_id b18.1 b18.2]
  refine Rn_goto (tgt := 179) dX13_shortestTwo_243 rfl ?_
  exact k
theorem BX13_shortestTwo_240 {d bc bs : Nat} {h : aH} {n : Nat} {Q : aQ} {r0 : Option Nat} {x1 x2 x3 : Int} (b1 : -2147483648 ≤ x3 + 1 ∧ x3 + 1 < 2147483648) (k : Rn d bc bs mX13_shortestTwo 179 [some (vR r0), some (vI x1), some (vI x2), some (vI (x3 + 1))] [] h n Q) : Rn d (bc) (bs) mX13_shortestTwo 240 [some (vR r0), some (vI x1), some (vI x2), some (vI x3)] [] h n Q := by
  refine Rn_iinc dX13_shortestTwo_240 rfl (Nat.le_of_ble_eq_true rfl) rfl rfl rfl ?_
  rw [w32_id b1.1 b1.2]
  refine Rn_goto (tgt := 179) dX13_shortestTwo_243 rfl ?_
  exact k
theorem BX13_shortestTwo_246 {d bc bs : Nat} {h : aH} {n : Nat} {Q : aQ} {r0 : Option Nat} {x1 x2 x3 : Int} (k : Q (some (vI x2)) h n) : Rn d (bc) (bs) mX13_shortestTwo 246 [some (vR r0), some (vI x1), some (vI x2), some (vI x3)] [] h n Q := by
  refine Rn_iload_n dX13_shortestTwo_246 rfl rfl ?_
  exact Rn_ireturn rfl dX13_shortestTwo_247 k
theorem dX13_clear_0 : decode cX13_clear 0 = .ok (.iload_n 1, 1) := by decide +kernel
theorem dX13_clear_1 : decode cX13_clear 1 = .ok (.iconst 0, 1) := by decide +kernel
theorem dX13_clear_2 : decode cX13_clear 2 = .ok (.iconst 1, 1) := by decide +kernel
theorem dX13_clear_3 : decode cX13_clear 3 = .ok (.invokestatic 72, 3) := by decide +kernel
theorem dX13_clear_6 : decode cX13_clear 6 = .ok (.ifCond .ne 5, 3) := by decide +kernel
theorem dX13_clear_9 : decode cX13_clear 9 = .ok (.iconst (-1), 1) := by decide +kernel
theorem dX13_clear_10 : decode cX13_clear 10 = .ok (.ireturn, 1) := by decide +kernel
theorem dX13_clear_11 : decode cX13_clear 11 = .ok (.aload_n 0, 1) := by decide +kernel
theorem dX13_clear_12 : decode cX13_clear 12 = .ok (.invokevirtual 463, 3) := by decide +kernel
theorem dX13_clear_15 : decode cX13_clear 15 = .ok (.istore_n 2, 1) := by decide +kernel
theorem dX13_clear_16 : decode cX13_clear 16 = .ok (.iload_n 1, 1) := by decide +kernel
theorem dX13_clear_17 : decode cX13_clear 17 = .ok (.ifCond .ne 18, 3) := by decide +kernel
theorem dX13_clear_20 : decode cX13_clear 20 = .ok (.iload_n 2, 1) := by decide +kernel
theorem dX13_clear_21 : decode cX13_clear 21 = .ok (.ldc_w 412, 3) := by decide +kernel
theorem dX13_clear_24 : decode cX13_clear 24 = .ok (.if_icmp .ne 7, 3) := by decide +kernel
theorem dX13_clear_27 : decode cX13_clear 27 = .ok (.iconst 1, 1) := by decide +kernel
theorem dX13_clear_28 : decode cX13_clear 28 = .ok (.goto 19, 3) := by decide +kernel
theorem dX13_clear_31 : decode cX13_clear 31 = .ok (.iconst 0, 1) := by decide +kernel
theorem dX13_clear_32 : decode cX13_clear 32 = .ok (.goto 15, 3) := by decide +kernel
theorem dX13_clear_35 : decode cX13_clear 35 = .ok (.iload_n 2, 1) := by decide +kernel
theorem dX13_clear_36 : decode cX13_clear 36 = .ok (.ldc_w 412, 3) := by decide +kernel
theorem dX13_clear_39 : decode cX13_clear 39 = .ok (.if_icmp .ne 7, 3) := by decide +kernel
theorem dX13_clear_42 : decode cX13_clear 42 = .ok (.iconst (-1), 1) := by decide +kernel
theorem dX13_clear_43 : decode cX13_clear 43 = .ok (.goto 4, 3) := by decide +kernel
theorem dX13_clear_46 : decode cX13_clear 46 = .ok (.iload_n 2, 1) := by decide +kernel
theorem dX13_clear_47 : decode cX13_clear 47 = .ok (.ireturn, 1) := by decide +kernel
theorem BX13_clear_0 {d bc bs : Nat} {h : aH} {n : Nat} {Q : aQ} {r0 : Option Nat} {x1 : Int} {l2 : Option aV} (k : Rn d 0 0 mX13_isIn 0 [some (vI x1), some (vI 0), some (vI 1)] [] h n (fun v h1 n1 => Rn (d + 1) bc bs mX13_clear 6 [some (vR r0), some (vI x1), l2] (v.toList ++ []) h1 n1 Q)) : Rn (d + 1) (bc) (bs) mX13_clear 0 [some (vR r0), some (vI x1), l2] [] h n Q := by
  refine Rn_iload_n dX13_clear_0 rfl rfl ?_
  refine Rn_iconst dX13_clear_1 rfl ?_
  refine Rn_iconst dX13_clear_2 rfl ?_
  exact Rn_callS (avs := [vI x1, vI 0, vI 1]) (st := []) (bc1 := 0) (bs1 := 0) (bc2 := bc) (bs2 := bs) fx_X13_isIn dX13_clear_3 (Or.inl wd_1463) wd_1464 rfl (Nat.le_of_ble_eq_true rfl) (Nat.le_of_ble_eq_true rfl) (by omega) (by omega) (ls1 := [some (vI x1), some (vI 0), some (vI 1)]) rfl k
theorem BX13_clear_6 {d bc bs : Nat} {h : aH} {n : Nat} {Q : aQ} {r0 : Option Nat} {x1 s0 : Int} {l2 : Option aV} (kt : s0 ≠ 0 → Rn d bc bs mX13_clear 11 [some (vR r0), some (vI x1), l2] [] h n Q) (kf : s0 = 0 → Rn d bc bs mX13_clear 9 [some (vR r0), some (vI x1), l2] [] h n Q) : Rn d (bc) (bs) mX13_clear 6 [some (vR r0), some (vI x1), l2] [vI s0] h n Q := by
  refine Rn_ifne (tgt := 11) dX13_clear_6 rfl ?_ ?_
  · exact kt
  · exact kf
theorem BX13_clear_9 {d bc bs : Nat} {h : aH} {n : Nat} {Q : aQ} {r0 : Option Nat} {x1 : Int} {l2 : Option aV} (k : Q (some (vI (-1))) h n) : Rn d (bc) (bs) mX13_clear 9 [some (vR r0), some (vI x1), l2] [] h n Q := by
  refine Rn_iconst dX13_clear_9 rfl ?_
  exact Rn_ireturn rfl dX13_clear_10 k
theorem BX13_clear_11 {d bc bs : Nat} {h : aH} {n : Nat} {Q : aQ} {ar0 : Nat} {x1 : Int} {l2 : Option aV} {f1 : List aV} (h2 : h ar0 = cO 13 f1) (k : Rn d 0 0 mX13_shortestTwo 0 [some (vR (some ar0)), none, none, none] [] h n (fun v h1 n1 => Rn (d + 1) bc bs mX13_clear 15 [some (vR (some ar0)), some (vI x1), l2] (v.toList ++ []) h1 n1 Q)) : Rn (d + 1) (bc) (bs) mX13_clear 11 [some (vR (some ar0)), some (vI x1), l2] [] h n Q := by
  refine Rn_aload_n dX13_clear_11 rfl rfl rfl ?_
  exact Rn_callV (ci := 13) (avs := []) (st := []) (bc1 := 0) (bs1 := 0) (bc2 := bc) (bs2 := bs) fx_X13_shortestTwo dX13_clear_12 wd_1947 wd_1949 wd_114 rfl h2 rfl (Nat.le_of_ble_eq_true rfl) (Nat.le_of_ble_eq_true rfl) (by omega) (by omega) (ls1 := [some (vR (some ar0)), none, none, none]) rfl k
theorem BX13_clear_15 {d bc bs : Nat} {h : aH} {n : Nat} {Q : aQ} {r0 : Option Nat} {x1 s0 : Int} {l2 : Option aV} (kt : x1 ≠ 0 → Rn d bc bs mX13_clear 35 [some (vR r0), some (vI x1), some (vI s0)] [] h n Q) (kf : x1 = 0 → Rn d bc bs mX13_clear 20 [some (vR r0), some (vI x1), some (vI s0)] [] h n Q) : Rn d (bc) (bs) mX13_clear 15 [some (vR r0), some (vI x1), l2] [vI s0] h n Q := by
  refine Rn_istore_n dX13_clear_15 rfl (Nat.le_of_ble_eq_true rfl) rfl rfl ?_
  refine Rn_iload_n dX13_clear_16 rfl rfl ?_
  refine Rn_ifne (tgt := 35) dX13_clear_17 rfl ?_ ?_
  · exact kt
  · exact kf
theorem BX13_clear_20 {d bc bs : Nat} {h : aH} {n : Nat} {Q : aQ} {r0 : Option Nat} {x1 x2 : Int} (kt : x2 ≠ 1000000 → Rn d bc bs mX13_clear 31 [some (vR r0), some (vI x1), some (vI x2)] [] h n Q) (kf : x2 = 1000000 → Rn d bc bs mX13_clear 27 [some (vR r0), some (vI x1), some (vI x2)] [] h n Q) : Rn d (bc) (bs) mX13_clear 20 [some (vR r0), some (vI x1), some (vI x2)] [] h n Q := by
  refine Rn_iload_n dX13_clear_20 rfl rfl ?_
  refine Rn_ldcw dX13_clear_21 wd_1894 rfl ?_
  refine Rn_icmpne (tgt := 31) dX13_clear_24 rfl ?_ ?_
  · exact kt
  · exact kf
theorem BX13_clear_27 {d bc bs : Nat} {h : aH} {n : Nat} {Q : aQ} {r0 : Option Nat} {x1 x2 : Int} (k : Q (some (vI 1)) h n) : Rn d (bc) (bs) mX13_clear 27 [some (vR r0), some (vI x1), some (vI x2)] [] h n Q := by
  refine Rn_iconst dX13_clear_27 rfl ?_
  refine Rn_goto (tgt := 47) dX13_clear_28 rfl ?_
  exact Rn_ireturn rfl dX13_clear_47 k
theorem BX13_clear_31 {d bc bs : Nat} {h : aH} {n : Nat} {Q : aQ} {r0 : Option Nat} {x1 x2 : Int} (k : Q (some (vI 0)) h n) : Rn d (bc) (bs) mX13_clear 31 [some (vR r0), some (vI x1), some (vI x2)] [] h n Q := by
  refine Rn_iconst dX13_clear_31 rfl ?_
  refine Rn_goto (tgt := 47) dX13_clear_32 rfl ?_
  exact Rn_ireturn rfl dX13_clear_47 k
theorem BX13_clear_35 {d bc bs : Nat} {h : aH} {n : Nat} {Q : aQ} {r0 : Option Nat} {x1 x2 : Int} (kt : x2 ≠ 1000000 → Rn d bc bs mX13_clear 46 [some (vR r0), some (vI x1), some (vI x2)] [] h n Q) (kf : x2 = 1000000 → Rn d bc bs mX13_clear 42 [some (vR r0), some (vI x1), some (vI x2)] [] h n Q) : Rn d (bc) (bs) mX13_clear 35 [some (vR r0), some (vI x1), some (vI x2)] [] h n Q := by
  refine Rn_iload_n dX13_clear_35 rfl rfl ?_
  refine Rn_ldcw dX13_clear_36 wd_1894 rfl ?_
  refine Rn_icmpne (tgt := 46) dX13_clear_39 rfl ?_ ?_
  · exact kt
  · exact kf
theorem BX13_clear_42 {d bc bs : Nat} {h : aH} {n : Nat} {Q : aQ} {r0 : Option Nat} {x1 x2 : Int} (k : Q (some (vI (-1))) h n) : Rn d (bc) (bs) mX13_clear 42 [some (vR r0), some (vI x1), some (vI x2)] [] h n Q := by
  refine Rn_iconst dX13_clear_42 rfl ?_
  refine Rn_goto (tgt := 47) dX13_clear_43 rfl ?_
  exact Rn_ireturn rfl dX13_clear_47 k
theorem BX13_clear_46 {d bc bs : Nat} {h : aH} {n : Nat} {Q : aQ} {r0 : Option Nat} {x1 x2 : Int} (k : Q (some (vI x2)) h n) : Rn d (bc) (bs) mX13_clear 46 [some (vR r0), some (vI x1), some (vI x2)] [] h n Q := by
  refine Rn_iload_n dX13_clear_46 rfl rfl ?_
  exact Rn_ireturn rfl dX13_clear_47 k
theorem dX13_digitsOf_0 : decode cX13_digitsOf 0 = .ok (.iconst 0, 1) := by decide +kernel
theorem dX13_digitsOf_1 : decode cX13_digitsOf 1 = .ok (.istore_n 1, 1) := by decide +kernel
theorem dX13_digitsOf_2 : decode cX13_digitsOf 2 = .ok (.iload_n 0, 1) := by decide +kernel
theorem dX13_digitsOf_3 : decode cX13_digitsOf 3 = .ok (.istore_n 2, 1) := by decide +kernel
theorem dX13_digitsOf_4 : decode cX13_digitsOf 4 = .ok (.iload_n 2, 1) := by decide +kernel
theorem dX13_digitsOf_5 : decode cX13_digitsOf 5 = .ok (.ifCond .le 14, 3) := by decide +kernel
theorem dX13_digitsOf_8 : decode cX13_digitsOf 8 = .ok (.iinc 1 1, 3) := by decide +kernel
theorem dX13_digitsOf_11 : decode cX13_digitsOf 11 = .ok (.iload_n 2, 1) := by decide +kernel
theorem dX13_digitsOf_12 : decode cX13_digitsOf 12 = .ok (.bipush 10, 2) := by decide +kernel
theorem dX13_digitsOf_14 : decode cX13_digitsOf 14 = .ok (.idiv, 1) := by decide +kernel
theorem dX13_digitsOf_15 : decode cX13_digitsOf 15 = .ok (.istore_n 2, 1) := by decide +kernel
theorem dX13_digitsOf_16 : decode cX13_digitsOf 16 = .ok (.goto (-12), 3) := by decide +kernel
theorem dX13_digitsOf_19 : decode cX13_digitsOf 19 = .ok (.iload_n 1, 1) := by decide +kernel
theorem dX13_digitsOf_20 : decode cX13_digitsOf 20 = .ok (.ireturn, 1) := by decide +kernel
theorem BX13_digitsOf_0 {d bc bs : Nat} {h : aH} {n : Nat} {Q : aQ} {x0 : Int} {l1 l2 : Option aV} (k : Rn d bc bs mX13_digitsOf 4 [some (vI x0), some (vI 0), some (vI x0)] [] h n Q) : Rn d (bc) (bs) mX13_digitsOf 0 [some (vI x0), l1, l2] [] h n Q := by
  refine Rn_iconst dX13_digitsOf_0 rfl ?_
  refine Rn_istore_n dX13_digitsOf_1 rfl (Nat.le_of_ble_eq_true rfl) rfl rfl ?_
  refine Rn_iload_n dX13_digitsOf_2 rfl rfl ?_
  refine Rn_istore_n dX13_digitsOf_3 rfl (Nat.le_of_ble_eq_true rfl) rfl rfl ?_
  exact k
theorem BX13_digitsOf_4 {d bc bs : Nat} {h : aH} {n : Nat} {Q : aQ} {x0 x1 x2 : Int} (kt : x2 ≤ 0 → Rn d bc bs mX13_digitsOf 19 [some (vI x0), some (vI x1), some (vI x2)] [] h n Q) (kf : 0 < x2 → Rn d bc bs mX13_digitsOf 8 [some (vI x0), some (vI x1), some (vI x2)] [] h n Q) : Rn d (bc) (bs) mX13_digitsOf 4 [some (vI x0), some (vI x1), some (vI x2)] [] h n Q := by
  refine Rn_iload_n dX13_digitsOf_4 rfl rfl ?_
  refine Rn_ifle (tgt := 19) dX13_digitsOf_5 rfl ?_ ?_
  · exact kt
  · exact kf
theorem BX13_digitsOf_8 {d bc bs : Nat} {h : aH} {n : Nat} {Q : aQ} {x0 x1 x2 : Int} (b1 : -2147483648 ≤ x1 + 1 ∧ x1 + 1 < 2147483648) (b2 : 0 ≤ x2) (b3 : -2147483648 ≤ x2 / 10 ∧ x2 / 10 < 2147483648) (k : Rn d bc bs mX13_digitsOf 4 [some (vI x0), some (vI (x1 + 1)), some (vI (x2 / 10))] [] h n Q) : Rn d (bc) (bs) mX13_digitsOf 8 [some (vI x0), some (vI x1), some (vI x2)] [] h n Q := by
  refine Rn_iinc dX13_digitsOf_8 rfl (Nat.le_of_ble_eq_true rfl) rfl rfl rfl ?_
  rw [w32_id b1.1 b1.2]
  refine Rn_iload_n dX13_digitsOf_11 rfl rfl ?_
  refine Rn_bipush dX13_digitsOf_12 rfl ?_
  refine Rn_idiv dX13_digitsOf_14 (by decide) ?_
  rw [Int.tdiv_eq_ediv_of_nonneg b2]
  rw [w32_id b3.1 b3.2]
  refine Rn_istore_n dX13_digitsOf_15 rfl (Nat.le_of_ble_eq_true rfl) rfl rfl ?_
  refine Rn_goto (tgt := 4) dX13_digitsOf_16 rfl ?_
  exact k
theorem BX13_digitsOf_19 {d bc bs : Nat} {h : aH} {n : Nat} {Q : aQ} {x0 x1 x2 : Int} (k : Q (some (vI x1)) h n) : Rn d (bc) (bs) mX13_digitsOf 19 [some (vI x0), some (vI x1), some (vI x2)] [] h n Q := by
  refine Rn_iload_n dX13_digitsOf_19 rfl rfl ?_
  exact Rn_ireturn rfl dX13_digitsOf_20 k
theorem dX13_reads_0 : decode cX13_reads 0 = .ok (.iload_n 1, 1) := by decide +kernel
theorem dX13_reads_1 : decode cX13_reads 1 = .ok (.iconst 1, 1) := by decide +kernel
theorem dX13_reads_2 : decode cX13_reads 2 = .ok (.ldc_w 466, 3) := by decide +kernel
theorem dX13_reads_5 : decode cX13_reads 5 = .ok (.invokestatic 72, 3) := by decide +kernel
theorem dX13_reads_8 : decode cX13_reads 8 = .ok (.ifCond .ne 7, 3) := by decide +kernel
theorem dX13_reads_11 : decode cX13_reads 11 = .ok (.ldc2_w 438, 3) := by decide +kernel
theorem dX13_reads_14 : decode cX13_reads 14 = .ok (.lreturn, 1) := by decide +kernel
theorem dX13_reads_15 : decode cX13_reads 15 = .ok (.iload_n 1, 1) := by decide +kernel
theorem dX13_reads_16 : decode cX13_reads 16 = .ok (.invokestatic 467, 3) := by decide +kernel
theorem dX13_reads_19 : decode cX13_reads 19 = .ok (.istore_n 2, 1) := by decide +kernel
theorem dX13_reads_20 : decode cX13_reads 20 = .ok (.aload_n 0, 1) := by decide +kernel
theorem dX13_reads_21 : decode cX13_reads 21 = .ok (.getfield 59, 3) := by decide +kernel
theorem dX13_reads_24 : decode cX13_reads 24 = .ok (.iconst 0, 1) := by decide +kernel
theorem dX13_reads_25 : decode cX13_reads 25 = .ok (.lconst 1, 1) := by decide +kernel
theorem dX13_reads_26 : decode cX13_reads 26 = .ok (.lastore, 1) := by decide +kernel
theorem dX13_reads_27 : decode cX13_reads 27 = .ok (.iconst 1, 1) := by decide +kernel
theorem dX13_reads_28 : decode cX13_reads 28 = .ok (.istore_n 3, 1) := by decide +kernel
theorem dX13_reads_29 : decode cX13_reads 29 = .ok (.iload_n 3, 1) := by decide +kernel
theorem dX13_reads_30 : decode cX13_reads 30 = .ok (.iload_n 2, 1) := by decide +kernel
theorem dX13_reads_31 : decode cX13_reads 31 = .ok (.if_icmp .gt 123, 3) := by decide +kernel
theorem dX13_reads_34 : decode cX13_reads 34 = .ok (.aload_n 0, 1) := by decide +kernel
theorem dX13_reads_35 : decode cX13_reads 35 = .ok (.getfield 59, 3) := by decide +kernel
theorem dX13_reads_38 : decode cX13_reads 38 = .ok (.iload_n 3, 1) := by decide +kernel
theorem dX13_reads_39 : decode cX13_reads 39 = .ok (.lconst 0, 1) := by decide +kernel
theorem dX13_reads_40 : decode cX13_reads 40 = .ok (.lastore, 1) := by decide +kernel
theorem dX13_reads_41 : decode cX13_reads 41 = .ok (.iload_n 1, 1) := by decide +kernel
theorem dX13_reads_42 : decode cX13_reads 42 = .ok (.istore 4, 2) := by decide +kernel
theorem dX13_reads_44 : decode cX13_reads 44 = .ok (.iload_n 3, 1) := by decide +kernel
theorem dX13_reads_45 : decode cX13_reads 45 = .ok (.istore 5, 2) := by decide +kernel
theorem dX13_reads_47 : decode cX13_reads 47 = .ok (.iload 5, 2) := by decide +kernel
theorem dX13_reads_49 : decode cX13_reads 49 = .ok (.iload_n 2, 1) := by decide +kernel
theorem dX13_reads_50 : decode cX13_reads 50 = .ok (.if_icmp .ge 16, 3) := by decide +kernel
theorem dX13_reads_53 : decode cX13_reads 53 = .ok (.iload 4, 2) := by decide +kernel
theorem dX13_reads_55 : decode cX13_reads 55 = .ok (.bipush 10, 2) := by decide +kernel
theorem dX13_reads_57 : decode cX13_reads 57 = .ok (.idiv, 1) := by decide +kernel
theorem dX13_reads_58 : decode cX13_reads 58 = .ok (.istore 4, 2) := by decide +kernel
theorem dX13_reads_60 : decode cX13_reads 60 = .ok (.iinc 5 1, 3) := by decide +kernel
theorem dX13_reads_63 : decode cX13_reads 63 = .ok (.goto (-16), 3) := by decide +kernel
theorem dX13_reads_66 : decode cX13_reads 66 = .ok (.iconst 0, 1) := by decide +kernel
theorem dX13_reads_67 : decode cX13_reads 67 = .ok (.istore 5, 2) := by decide +kernel
theorem dX13_reads_69 : decode cX13_reads 69 = .ok (.iload 5, 2) := by decide +kernel
theorem dX13_reads_71 : decode cX13_reads 71 = .ok (.aload_n 0, 1) := by decide +kernel
theorem dX13_reads_72 : decode cX13_reads 72 = .ok (.getfield 7, 3) := by decide +kernel
theorem dX13_reads_75 : decode cX13_reads 75 = .ok (.iconst 5, 1) := by decide +kernel
theorem dX13_reads_76 : decode cX13_reads 76 = .ok (.iaload, 1) := by decide +kernel
theorem dX13_reads_77 : decode cX13_reads 77 = .ok (.if_icmp .ge 71, 3) := by decide +kernel
theorem dX13_reads_80 : decode cX13_reads 80 = .ok (.aload_n 0, 1) := by decide +kernel
theorem dX13_reads_81 : decode cX13_reads 81 = .ok (.getfield 7, 3) := by decide +kernel
theorem dX13_reads_84 : decode cX13_reads 84 = .ok (.sipush 137, 3) := by decide +kernel
theorem dX13_reads_87 : decode cX13_reads 87 = .ok (.iload 5, 2) := by decide +kernel
theorem dX13_reads_89 : decode cX13_reads 89 = .ok (.iadd, 1) := by decide +kernel
theorem dX13_reads_90 : decode cX13_reads 90 = .ok (.iaload, 1) := by decide +kernel
theorem dX13_reads_91 : decode cX13_reads 91 = .ok (.invokestatic 448, 3) := by decide +kernel
theorem dX13_reads_94 : decode cX13_reads 94 = .ok (.istore 6, 2) := by decide +kernel
theorem dX13_reads_96 : decode cX13_reads 96 = .ok (.iload 6, 2) := by decide +kernel
theorem dX13_reads_98 : decode cX13_reads 98 = .ok (.iload_n 3, 1) := by decide +kernel
theorem dX13_reads_99 : decode cX13_reads 99 = .ok (.if_icmp .gt 43, 3) := by decide +kernel
theorem dX13_reads_102 : decode cX13_reads 102 = .ok (.iload 4, 2) := by decide +kernel
theorem dX13_reads_104 : decode cX13_reads 104 = .ok (.iload 6, 2) := by decide +kernel
theorem dX13_reads_106 : decode cX13_reads 106 = .ok (.invokestatic 451, 3) := by decide +kernel
theorem dX13_reads_109 : decode cX13_reads 109 = .ok (.irem, 1) := by decide +kernel
theorem dX13_reads_110 : decode cX13_reads 110 = .ok (.aload_n 0, 1) := by decide +kernel
theorem dX13_reads_111 : decode cX13_reads 111 = .ok (.getfield 7, 3) := by decide +kernel
theorem dX13_reads_114 : decode cX13_reads 114 = .ok (.sipush 137, 3) := by decide +kernel
theorem dX13_reads_117 : decode cX13_reads 117 = .ok (.iload 5, 2) := by decide +kernel
theorem dX13_reads_119 : decode cX13_reads 119 = .ok (.iadd, 1) := by decide +kernel
theorem dX13_reads_120 : decode cX13_reads 120 = .ok (.iaload, 1) := by decide +kernel
theorem dX13_reads_121 : decode cX13_reads 121 = .ok (.if_icmp .ne 21, 3) := by decide +kernel
theorem dX13_reads_124 : decode cX13_reads 124 = .ok (.aload_n 0, 1) := by decide +kernel
theorem dX13_reads_125 : decode cX13_reads 125 = .ok (.getfield 59, 3) := by decide +kernel
theorem dX13_reads_128 : decode cX13_reads 128 = .ok (.iload_n 3, 1) := by decide +kernel
theorem dX13_reads_129 : decode cX13_reads 129 = .ok (.dup2, 1) := by decide +kernel
theorem dX13_reads_130 : decode cX13_reads 130 = .ok (.laload, 1) := by decide +kernel
theorem dX13_reads_131 : decode cX13_reads 131 = .ok (.aload_n 0, 1) := by decide +kernel
theorem dX13_reads_132 : decode cX13_reads 132 = .ok (.getfield 59, 3) := by decide +kernel
theorem dX13_reads_135 : decode cX13_reads 135 = .ok (.iload_n 3, 1) := by decide +kernel
theorem dX13_reads_136 : decode cX13_reads 136 = .ok (.iload 6, 2) := by decide +kernel
theorem dX13_reads_138 : decode cX13_reads 138 = .ok (.isub, 1) := by decide +kernel
theorem dX13_reads_139 : decode cX13_reads 139 = .ok (.laload, 1) := by decide +kernel
theorem dX13_reads_140 : decode cX13_reads 140 = .ok (.ladd, 1) := by decide +kernel
theorem dX13_reads_141 : decode cX13_reads 141 = .ok (.lastore, 1) := by decide +kernel
theorem dX13_reads_142 : decode cX13_reads 142 = .ok (.iinc 5 1, 3) := by decide +kernel
theorem dX13_reads_145 : decode cX13_reads 145 = .ok (.goto (-76), 3) := by decide +kernel
theorem dX13_reads_148 : decode cX13_reads 148 = .ok (.iinc 3 1, 3) := by decide +kernel
theorem dX13_reads_151 : decode cX13_reads 151 = .ok (.goto (-122), 3) := by decide +kernel
theorem dX13_reads_154 : decode cX13_reads 154 = .ok (.aload_n 0, 1) := by decide +kernel
theorem dX13_reads_155 : decode cX13_reads 155 = .ok (.getfield 59, 3) := by decide +kernel
theorem dX13_reads_158 : decode cX13_reads 158 = .ok (.iload_n 2, 1) := by decide +kernel
theorem dX13_reads_159 : decode cX13_reads 159 = .ok (.laload, 1) := by decide +kernel
theorem dX13_reads_160 : decode cX13_reads 160 = .ok (.lreturn, 1) := by decide +kernel
theorem BX13_reads_0 {d bc bs : Nat} {h : aH} {n : Nat} {Q : aQ} {r0 : Option Nat} {x1 : Int} {l2 l3 l4 l5 l6 : Option aV} (k : Rn d 0 0 mX13_isIn 0 [some (vI x1), some (vI 1), some (vI 999999999)] [] h n (fun v h1 n1 => Rn (d + 1) bc bs mX13_reads 8 [some (vR r0), some (vI x1), l2, l3, l4, l5, l6] (v.toList ++ []) h1 n1 Q)) : Rn (d + 1) (bc) (bs) mX13_reads 0 [some (vR r0), some (vI x1), l2, l3, l4, l5, l6] [] h n Q := by
  refine Rn_iload_n dX13_reads_0 rfl rfl ?_
  refine Rn_iconst dX13_reads_1 rfl ?_
  refine Rn_ldcw dX13_reads_2 wd_1972 rfl ?_
  exact Rn_callS (avs := [vI x1, vI 1, vI 999999999]) (st := []) (bc1 := 0) (bs1 := 0) (bc2 := bc) (bs2 := bs) fx_X13_isIn dX13_reads_5 (Or.inl wd_1463) wd_1464 rfl (Nat.le_of_ble_eq_true rfl) (Nat.le_of_ble_eq_true rfl) (by omega) (by omega) (ls1 := [some (vI x1), some (vI 1), some (vI 999999999)]) rfl k
theorem BX13_reads_8 {d bc bs : Nat} {h : aH} {n : Nat} {Q : aQ} {r0 : Option Nat} {x1 s0 : Int} {l2 l3 l4 l5 l6 : Option aV} (kt : s0 ≠ 0 → Rn d bc bs mX13_reads 15 [some (vR r0), some (vI x1), l2, l3, l4, l5, l6] [] h n Q) (kf : s0 = 0 → Rn d bc bs mX13_reads 11 [some (vR r0), some (vI x1), l2, l3, l4, l5, l6] [] h n Q) : Rn d (bc) (bs) mX13_reads 8 [some (vR r0), some (vI x1), l2, l3, l4, l5, l6] [vI s0] h n Q := by
  refine Rn_ifne (tgt := 15) dX13_reads_8 rfl ?_ ?_
  · exact kt
  · exact kf
theorem BX13_reads_11 {d bc bs : Nat} {h : aH} {n : Nat} {Q : aQ} {r0 : Option Nat} {x1 : Int} {l2 l3 l4 l5 l6 : Option aV} (k : Q (some (vL (-1))) h n) : Rn d (bc) (bs) mX13_reads 11 [some (vR r0), some (vI x1), l2, l3, l4, l5, l6] [] h n Q := by
  refine Rn_ldc2 (x := (-1)) dX13_reads_11 wd_1931 rfl ?_
  exact Rn_lreturn rfl dX13_reads_14 k
theorem BX13_reads_15 {d bc bs : Nat} {h : aH} {n : Nat} {Q : aQ} {r0 : Option Nat} {x1 : Int} {l2 l3 l4 l5 l6 : Option aV} (k : Rn d 0 0 mX13_digitsOf 0 [some (vI x1), none, none] [] h n (fun v h1 n1 => Rn (d + 1) bc bs mX13_reads 19 [some (vR r0), some (vI x1), l2, l3, l4, l5, l6] (v.toList ++ []) h1 n1 Q)) : Rn (d + 1) (bc) (bs) mX13_reads 15 [some (vR r0), some (vI x1), l2, l3, l4, l5, l6] [] h n Q := by
  refine Rn_iload_n dX13_reads_15 rfl rfl ?_
  exact Rn_callS (avs := [vI x1]) (st := []) (bc1 := 0) (bs1 := 0) (bc2 := bc) (bs2 := bs) fx_X13_digitsOf dX13_reads_16 (Or.inl wd_1973) wd_1974 rfl (Nat.le_of_ble_eq_true rfl) (Nat.le_of_ble_eq_true rfl) (by omega) (by omega) (ls1 := [some (vI x1), none, none]) rfl k
theorem BX13_reads_19 {d bc bs : Nat} {h : aH} {n : Nat} {Q : aQ} {ar0 at3 : Nat} {x1 s0 : Int} {l2 l3 l4 l5 l6 : Option aV} {f1 : List aV} {w5 : List Int} (h2 : h ar0 = cO 13 f1) (g4 : f1[31]? = some (vR (some at3))) (h6 : h at3 = cJ w5) (j7 : (0 : Int) < w5.length) (z8 : at3 ≠ 0) (k : Rn d bc bs mX13_reads 27 [some (vR (some ar0)), some (vI x1), some (vI s0), l3, l4, l5, l6] [] (up h at3 (cJ (w5.set (0 : Int).toNat 1))) n Q) : Rn d (bc) (bs) mX13_reads 19 [some (vR (some ar0)), some (vI x1), l2, l3, l4, l5, l6] [vI s0] h n Q := by
  refine Rn_istore_n dX13_reads_19 rfl (Nat.le_of_ble_eq_true rfl) rfl rfl ?_
  refine Rn_aload_n dX13_reads_20 rfl rfl rfl ?_
  refine Rn_getfield (ci := 13) (k := 31) dX13_reads_21 rfl in_13 (Nat.le_of_ble_eq_true rfl) wd_1383 rfl h2 g4 ?_
  refine Rn_iconst dX13_reads_24 rfl ?_
  refine Rn_lconst (x := 1) dX13_reads_25 rfl ?_
  refine Rn_lastore dX13_reads_26 z8 h6 (by decide) j7 ?_
  exact k
theorem BX13_reads_27 {d bc bs : Nat} {h : aH} {n : Nat} {Q : aQ} {r0 : Option Nat} {x1 x2 : Int} {l3 l4 l5 l6 : Option aV} (k : Rn d bc bs mX13_reads 29 [some (vR r0), some (vI x1), some (vI x2), some (vI 1), l4, l5, l6] [] h n Q) : Rn d (bc) (bs) mX13_reads 27 [some (vR r0), some (vI x1), some (vI x2), l3, l4, l5, l6] [] h n Q := by
  refine Rn_iconst dX13_reads_27 rfl ?_
  refine Rn_istore_n dX13_reads_28 rfl (Nat.le_of_ble_eq_true rfl) rfl rfl ?_
  exact k
theorem BX13_reads_29 {d bc bs : Nat} {h : aH} {n : Nat} {Q : aQ} {r0 : Option Nat} {x1 x2 x3 : Int} {l4 l5 l6 : Option aV} (kt : x2 < x3 → Rn d bc bs mX13_reads 154 [some (vR r0), some (vI x1), some (vI x2), some (vI x3), l4, l5, l6] [] h n Q) (kf : x3 ≤ x2 → Rn d bc bs mX13_reads 34 [some (vR r0), some (vI x1), some (vI x2), some (vI x3), l4, l5, l6] [] h n Q) : Rn d (bc) (bs) mX13_reads 29 [some (vR r0), some (vI x1), some (vI x2), some (vI x3), l4, l5, l6] [] h n Q := by
  refine Rn_iload_n dX13_reads_29 rfl rfl ?_
  refine Rn_iload_n dX13_reads_30 rfl rfl ?_
  refine Rn_icmpgt (tgt := 154) dX13_reads_31 rfl ?_ ?_
  · exact kt
  · exact kf
theorem BX13_reads_34 {d bc bs : Nat} {h : aH} {n : Nat} {Q : aQ} {ar0 at3 : Nat} {x1 x2 x3 : Int} {l4 l5 l6 : Option aV} {f1 : List aV} {w5 : List Int} (h2 : h ar0 = cO 13 f1) (g4 : f1[31]? = some (vR (some at3))) (h6 : h at3 = cJ w5) (i7 : 0 ≤ x3) (j8 : x3 < w5.length) (z9 : at3 ≠ 0) (k : Rn d bc bs mX13_reads 41 [some (vR (some ar0)), some (vI x1), some (vI x2), some (vI x3), l4, l5, l6] [] (up h at3 (cJ (w5.set (x3 : Int).toNat 0))) n Q) : Rn d (bc) (bs) mX13_reads 34 [some (vR (some ar0)), some (vI x1), some (vI x2), some (vI x3), l4, l5, l6] [] h n Q := by
  refine Rn_aload_n dX13_reads_34 rfl rfl rfl ?_
  refine Rn_getfield (ci := 13) (k := 31) dX13_reads_35 rfl in_13 (Nat.le_of_ble_eq_true rfl) wd_1383 rfl h2 g4 ?_
  refine Rn_iload_n dX13_reads_38 rfl rfl ?_
  refine Rn_lconst (x := 0) dX13_reads_39 rfl ?_
  refine Rn_lastore dX13_reads_40 z9 h6 i7 j8 ?_
  exact k
theorem BX13_reads_41 {d bc bs : Nat} {h : aH} {n : Nat} {Q : aQ} {r0 : Option Nat} {x1 x2 x3 : Int} {l4 l5 l6 : Option aV} (k : Rn d bc bs mX13_reads 47 [some (vR r0), some (vI x1), some (vI x2), some (vI x3), some (vI x1), some (vI x3), l6] [] h n Q) : Rn d (bc) (bs) mX13_reads 41 [some (vR r0), some (vI x1), some (vI x2), some (vI x3), l4, l5, l6] [] h n Q := by
  refine Rn_iload_n dX13_reads_41 rfl rfl ?_
  refine Rn_istore dX13_reads_42 (Nat.le_of_ble_eq_true rfl) rfl rfl ?_
  refine Rn_iload_n dX13_reads_44 rfl rfl ?_
  refine Rn_istore dX13_reads_45 (Nat.le_of_ble_eq_true rfl) rfl rfl ?_
  exact k
theorem BX13_reads_47 {d bc bs : Nat} {h : aH} {n : Nat} {Q : aQ} {r0 : Option Nat} {x1 x2 x3 x4 x5 : Int} {l6 : Option aV} (kt : x2 ≤ x5 → Rn d bc bs mX13_reads 66 [some (vR r0), some (vI x1), some (vI x2), some (vI x3), some (vI x4), some (vI x5), l6] [] h n Q) (kf : x5 < x2 → Rn d bc bs mX13_reads 53 [some (vR r0), some (vI x1), some (vI x2), some (vI x3), some (vI x4), some (vI x5), l6] [] h n Q) : Rn d (bc) (bs) mX13_reads 47 [some (vR r0), some (vI x1), some (vI x2), some (vI x3), some (vI x4), some (vI x5), l6] [] h n Q := by
  refine Rn_iload dX13_reads_47 rfl ?_
  refine Rn_iload_n dX13_reads_49 rfl rfl ?_
  refine Rn_icmpge (tgt := 66) dX13_reads_50 rfl ?_ ?_
  · exact kt
  · exact kf
theorem BX13_reads_53 {d bc bs : Nat} {h : aH} {n : Nat} {Q : aQ} {r0 : Option Nat} {x1 x2 x3 x4 x5 : Int} {l6 : Option aV} (b1 : 0 ≤ x4) (b2 : -2147483648 ≤ x4 / 10 ∧ x4 / 10 < 2147483648) (b3 : -2147483648 ≤ x5 + 1 ∧ x5 + 1 < 2147483648) (k : Rn d bc bs mX13_reads 47 [some (vR r0), some (vI x1), some (vI x2), some (vI x3), some (vI (x4 / 10)), some (vI (x5 + 1)), l6] [] h n Q) : Rn d (bc) (bs) mX13_reads 53 [some (vR r0), some (vI x1), some (vI x2), some (vI x3), some (vI x4), some (vI x5), l6] [] h n Q := by
  refine Rn_iload dX13_reads_53 rfl ?_
  refine Rn_bipush dX13_reads_55 rfl ?_
  refine Rn_idiv dX13_reads_57 (by decide) ?_
  rw [Int.tdiv_eq_ediv_of_nonneg b1]
  rw [w32_id b2.1 b2.2]
  refine Rn_istore dX13_reads_58 (Nat.le_of_ble_eq_true rfl) rfl rfl ?_
  refine Rn_iinc dX13_reads_60 rfl (Nat.le_of_ble_eq_true rfl) rfl rfl rfl ?_
  rw [w32_id b3.1 b3.2]
  refine Rn_goto (tgt := 47) dX13_reads_63 rfl ?_
  exact k
theorem BX13_reads_66 {d bc bs : Nat} {h : aH} {n : Nat} {Q : aQ} {r0 : Option Nat} {x1 x2 x3 x4 x5 : Int} {l6 : Option aV} (k : Rn d bc bs mX13_reads 69 [some (vR r0), some (vI x1), some (vI x2), some (vI x3), some (vI x4), some (vI 0), l6] [] h n Q) : Rn d (bc) (bs) mX13_reads 66 [some (vR r0), some (vI x1), some (vI x2), some (vI x3), some (vI x4), some (vI x5), l6] [] h n Q := by
  refine Rn_iconst dX13_reads_66 rfl ?_
  refine Rn_istore dX13_reads_67 (Nat.le_of_ble_eq_true rfl) rfl rfl ?_
  exact k
theorem BX13_reads_69 {d bc bs : Nat} {h : aH} {n : Nat} {Q : aQ} {ar0 at3 : Nat} {x1 x2 x3 x4 x5 v7 : Int} {l6 : Option aV} {f1 : List aV} {w5 : List Int} (h2 : h ar0 = cO 13 f1) (g4 : f1[0]? = some (vR (some at3))) (h6 : h at3 = cI w5) (g8 : w5[(5 : Int).toNat]? = some v7) (kt : v7 ≤ x5 → Rn d bc bs mX13_reads 148 [some (vR (some ar0)), some (vI x1), some (vI x2), some (vI x3), some (vI x4), some (vI x5), l6] [] h n Q) (kf : x5 < v7 → Rn d bc bs mX13_reads 80 [some (vR (some ar0)), some (vI x1), some (vI x2), some (vI x3), some (vI x4), some (vI x5), l6] [] h n Q) : Rn d (bc) (bs) mX13_reads 69 [some (vR (some ar0)), some (vI x1), some (vI x2), some (vI x3), some (vI x4), some (vI x5), l6] [] h n Q := by
  refine Rn_iload dX13_reads_69 rfl ?_
  refine Rn_aload_n dX13_reads_71 rfl rfl rfl ?_
  refine Rn_getfield (ci := 13) (k := 0) dX13_reads_72 rfl in_13 (Nat.le_of_ble_eq_true rfl) wd_1352 rfl h2 g4 ?_
  refine Rn_iconst dX13_reads_75 rfl ?_
  refine Rn_iaload dX13_reads_76 h6 (by decide) g8 ?_
  refine Rn_icmpge (tgt := 148) dX13_reads_77 rfl ?_ ?_
  · exact kt
  · exact kf
theorem BX13_reads_80 {d bc bs : Nat} {h : aH} {n : Nat} {Q : aQ} {ar0 at3 : Nat} {x1 x2 x3 x4 x5 v8 : Int} {l6 : Option aV} {f1 : List aV} {w6 : List Int} (h2 : h ar0 = cO 13 f1) (g4 : f1[0]? = some (vR (some at3))) (b5 : -2147483648 ≤ 137 + x5 ∧ 137 + x5 < 2147483648) (h7 : h at3 = cI w6) (i9 : 0 ≤ 137 + x5) (g10 : w6[(137 + x5 : Int).toNat]? = some v8) (k : Rn d 0 0 mX13_longOf 0 [some (vI v8)] [] h n (fun v h1 n1 => Rn (d + 1) bc bs mX13_reads 94 [some (vR (some ar0)), some (vI x1), some (vI x2), some (vI x3), some (vI x4), some (vI x5), l6] (v.toList ++ []) h1 n1 Q)) : Rn (d + 1) (bc) (bs) mX13_reads 80 [some (vR (some ar0)), some (vI x1), some (vI x2), some (vI x3), some (vI x4), some (vI x5), l6] [] h n Q := by
  refine Rn_aload_n dX13_reads_80 rfl rfl rfl ?_
  refine Rn_getfield (ci := 13) (k := 0) dX13_reads_81 rfl in_13 (Nat.le_of_ble_eq_true rfl) wd_1352 rfl h2 g4 ?_
  refine Rn_sipush dX13_reads_84 rfl ?_
  refine Rn_iload dX13_reads_87 rfl ?_
  refine Rn_iadd dX13_reads_89 ?_
  rw [w32_id b5.1 b5.2]
  refine Rn_iaload dX13_reads_90 h7 i9 g10 ?_
  exact Rn_callS (avs := [vI v8]) (st := []) (bc1 := 0) (bs1 := 0) (bc2 := bc) (bs2 := bs) fx_X13_longOf dX13_reads_91 (Or.inl wd_1954) wd_1955 rfl (Nat.le_of_ble_eq_true rfl) (Nat.le_of_ble_eq_true rfl) (by omega) (by omega) (ls1 := [some (vI v8)]) rfl k
theorem BX13_reads_94 {d bc bs : Nat} {h : aH} {n : Nat} {Q : aQ} {r0 : Option Nat} {x1 x2 x3 x4 x5 s0 : Int} {l6 : Option aV} (kt : x3 < s0 → Rn d bc bs mX13_reads 142 [some (vR r0), some (vI x1), some (vI x2), some (vI x3), some (vI x4), some (vI x5), some (vI s0)] [] h n Q) (kf : s0 ≤ x3 → Rn d bc bs mX13_reads 102 [some (vR r0), some (vI x1), some (vI x2), some (vI x3), some (vI x4), some (vI x5), some (vI s0)] [] h n Q) : Rn d (bc) (bs) mX13_reads 94 [some (vR r0), some (vI x1), some (vI x2), some (vI x3), some (vI x4), some (vI x5), l6] [vI s0] h n Q := by
  refine Rn_istore dX13_reads_94 (Nat.le_of_ble_eq_true rfl) rfl rfl ?_
  refine Rn_iload dX13_reads_96 rfl ?_
  refine Rn_iload_n dX13_reads_98 rfl rfl ?_
  refine Rn_icmpgt (tgt := 142) dX13_reads_99 rfl ?_ ?_
  · exact kt
  · exact kf
theorem BX13_reads_102 {d bc bs : Nat} {h : aH} {n : Nat} {Q : aQ} {r0 : Option Nat} {x1 x2 x3 x4 x5 x6 : Int} (k : Rn d 0 0 mX13_tensOf 0 [some (vI x6), none, none] [] h n (fun v h1 n1 => Rn (d + 1) bc bs mX13_reads 109 [some (vR r0), some (vI x1), some (vI x2), some (vI x3), some (vI x4), some (vI x5), some (vI x6)] (v.toList ++ [vI x4]) h1 n1 Q)) : Rn (d + 1) (bc) (bs) mX13_reads 102 [some (vR r0), some (vI x1), some (vI x2), some (vI x3), some (vI x4), some (vI x5), some (vI x6)] [] h n Q := by
  refine Rn_iload dX13_reads_102 rfl ?_
  refine Rn_iload dX13_reads_104 rfl ?_
  exact Rn_callS (avs := [vI x6]) (st := [vI x4]) (bc1 := 0) (bs1 := 0) (bc2 := bc) (bs2 := bs) fx_X13_tensOf dX13_reads_106 (Or.inl wd_1957) wd_1958 rfl (Nat.le_of_ble_eq_true rfl) (Nat.le_of_ble_eq_true rfl) (by omega) (by omega) (ls1 := [some (vI x6), none, none]) rfl k
theorem BX13_reads_109 {d bc bs : Nat} {h : aH} {n : Nat} {Q : aQ} {ar0 at4 : Nat} {x1 x2 x3 x4 x5 x6 s0 s1 v9 : Int} {f2 : List aV} {w7 : List Int} (e1 : ¬ s1 = 0) (h3 : h ar0 = cO 13 f2) (g5 : f2[0]? = some (vR (some at4))) (b6 : -2147483648 ≤ 137 + x5 ∧ 137 + x5 < 2147483648) (h8 : h at4 = cI w7) (i10 : 0 ≤ 137 + x5) (g11 : w7[(137 + x5 : Int).toNat]? = some v9) (kt : (Int.tmod s0 s1) ≠ v9 → Rn d bc bs mX13_reads 142 [some (vR (some ar0)), some (vI x1), some (vI x2), some (vI x3), some (vI x4), some (vI x5), some (vI x6)] [] h n Q) (kf : (Int.tmod s0 s1) = v9 → Rn d bc bs mX13_reads 124 [some (vR (some ar0)), some (vI x1), some (vI x2), some (vI x3), some (vI x4), some (vI x5), some (vI x6)] [] h n Q) : Rn d (bc) (bs) mX13_reads 109 [some (vR (some ar0)), some (vI x1), some (vI x2), some (vI x3), some (vI x4), some (vI x5), some (vI x6)] [vI s1, vI s0] h n Q := by
  refine Rn_irem dX13_reads_109 e1 ?_
  refine Rn_aload_n dX13_reads_110 rfl rfl rfl ?_
  refine Rn_getfield (ci := 13) (k := 0) dX13_reads_111 rfl in_13 (Nat.le_of_ble_eq_true rfl) wd_1352 rfl h3 g5 ?_
  refine Rn_sipush dX13_reads_114 rfl ?_
  refine Rn_iload dX13_reads_117 rfl ?_
  refine Rn_iadd dX13_reads_119 ?_
  rw [w32_id b6.1 b6.2]
  refine Rn_iaload dX13_reads_120 h8 i10 g11 ?_
  refine Rn_icmpne (tgt := 142) dX13_reads_121 rfl ?_ ?_
  · exact kt
  · exact kf
theorem BX13_reads_124 {d bc bs : Nat} {h : aH} {n : Nat} {Q : aQ} {ar0 at3 : Nat} {x1 x2 x3 x4 x5 x6 v7 v12 : Int} {f1 : List aV} {w5 : List Int} (h2 : h ar0 = cO 13 f1) (g4 : f1[31]? = some (vR (some at3))) (h6 : h at3 = cJ w5) (i8 : 0 ≤ x3) (g9 : w5[(x3 : Int).toNat]? = some v7) (z10 : at3 ≠ 0) (b11 : -2147483648 ≤ x3 - x6 ∧ x3 - x6 < 2147483648) (i13 : 0 ≤ x3 - x6) (g14 : w5[(x3 - x6 : Int).toNat]? = some v12) (b15 : -9223372036854775808 ≤ v7 + v12 ∧ v7 + v12 < 9223372036854775808) (j16 : x3 < w5.length) (k : Rn d bc bs mX13_reads 142 [some (vR (some ar0)), some (vI x1), some (vI x2), some (vI x3), some (vI x4), some (vI x5), some (vI x6)] [] (up h at3 (cJ (w5.set (x3 : Int).toNat (v7 + v12)))) n Q) : Rn d (bc) (bs) mX13_reads 124 [some (vR (some ar0)), some (vI x1), some (vI x2), some (vI x3), some (vI x4), some (vI x5), some (vI x6)] [] h n Q := by
  refine Rn_aload_n dX13_reads_124 rfl rfl rfl ?_
  refine Rn_getfield (ci := 13) (k := 31) dX13_reads_125 rfl in_13 (Nat.le_of_ble_eq_true rfl) wd_1383 rfl h2 g4 ?_
  refine Rn_iload_n dX13_reads_128 rfl rfl ?_
  refine Rn_dup2 dX13_reads_129 rfl rfl ?_
  refine Rn_laload dX13_reads_130 z10 h6 i8 g9 ?_
  refine Rn_aload_n dX13_reads_131 rfl rfl rfl ?_
  refine Rn_getfield (ci := 13) (k := 31) dX13_reads_132 rfl in_13 (Nat.le_of_ble_eq_true rfl) wd_1383 rfl h2 g4 ?_
  refine Rn_iload_n dX13_reads_135 rfl rfl ?_
  refine Rn_iload dX13_reads_136 rfl ?_
  refine Rn_isub dX13_reads_138 ?_
  rw [w32_id b11.1 b11.2]
  refine Rn_laload dX13_reads_139 z10 h6 i13 g14 ?_
  refine Rn_ladd dX13_reads_140 ?_
  rw [w64_id b15.1 b15.2]
  refine Rn_lastore dX13_reads_141 z10 h6 i8 j16 ?_
  exact k
theorem BX13_reads_142 {d bc bs : Nat} {h : aH} {n : Nat} {Q : aQ} {r0 : Option Nat} {x1 x2 x3 x4 x5 x6 : Int} (b1 : -2147483648 ≤ x5 + 1 ∧ x5 + 1 < 2147483648) (k : Rn d bc bs mX13_reads 69 [some (vR r0), some (vI x1), some (vI x2), some (vI x3), some (vI x4), some (vI (x5 + 1)), some (vI x6)] [] h n Q) : Rn d (bc) (bs) mX13_reads 142 [some (vR r0), some (vI x1), some (vI x2), some (vI x3), some (vI x4), some (vI x5), some (vI x6)] [] h n Q := by
  refine Rn_iinc dX13_reads_142 rfl (Nat.le_of_ble_eq_true rfl) rfl rfl rfl ?_
  rw [w32_id b1.1 b1.2]
  refine Rn_goto (tgt := 69) dX13_reads_145 rfl ?_
  exact k
theorem BX13_reads_148 {d bc bs : Nat} {h : aH} {n : Nat} {Q : aQ} {r0 : Option Nat} {x1 x2 x3 x4 x5 : Int} {l6 : Option aV} (b1 : -2147483648 ≤ x3 + 1 ∧ x3 + 1 < 2147483648) (k : Rn d bc bs mX13_reads 29 [some (vR r0), some (vI x1), some (vI x2), some (vI (x3 + 1)), some (vI x4), some (vI x5), l6] [] h n Q) : Rn d (bc) (bs) mX13_reads 148 [some (vR r0), some (vI x1), some (vI x2), some (vI x3), some (vI x4), some (vI x5), l6] [] h n Q := by
  refine Rn_iinc dX13_reads_148 rfl (Nat.le_of_ble_eq_true rfl) rfl rfl rfl ?_
  rw [w32_id b1.1 b1.2]
  refine Rn_goto (tgt := 29) dX13_reads_151 rfl ?_
  exact k
theorem BX13_reads_154 {d bc bs : Nat} {h : aH} {n : Nat} {Q : aQ} {ar0 at3 : Nat} {x1 x2 x3 v7 : Int} {l4 l5 l6 : Option aV} {f1 : List aV} {w5 : List Int} (h2 : h ar0 = cO 13 f1) (g4 : f1[31]? = some (vR (some at3))) (h6 : h at3 = cJ w5) (i8 : 0 ≤ x2) (g9 : w5[(x2 : Int).toNat]? = some v7) (z10 : at3 ≠ 0) (k : Q (some (vL v7)) h n) : Rn d (bc) (bs) mX13_reads 154 [some (vR (some ar0)), some (vI x1), some (vI x2), some (vI x3), l4, l5, l6] [] h n Q := by
  refine Rn_aload_n dX13_reads_154 rfl rfl rfl ?_
  refine Rn_getfield (ci := 13) (k := 31) dX13_reads_155 rfl in_13 (Nat.le_of_ble_eq_true rfl) wd_1383 rfl h2 g4 ?_
  refine Rn_iload_n dX13_reads_158 rfl rfl ?_
  refine Rn_laload dX13_reads_159 z10 h6 i8 g9 ?_
  exact Rn_lreturn rfl dX13_reads_160 k
theorem dX13_isLetter_0 : decode cX13_isLetter 0 = .ok (.iload_n 0, 1) := by decide +kernel
theorem dX13_isLetter_1 : decode cX13_isLetter 1 = .ok (.iconst 0, 1) := by decide +kernel
theorem dX13_isLetter_2 : decode cX13_isLetter 2 = .ok (.bipush 7, 2) := by decide +kernel
theorem dX13_isLetter_4 : decode cX13_isLetter 4 = .ok (.invokestatic 72, 3) := by decide +kernel
theorem dX13_isLetter_7 : decode cX13_isLetter 7 = .ok (.ireturn, 1) := by decide +kernel
theorem BX13_isLetter_0 {d bc bs : Nat} {h : aH} {n : Nat} {Q : aQ} {x0 : Int} (k : Rn d 0 0 mX13_isIn 0 [some (vI x0), some (vI 0), some (vI 7)] [] h n (fun v h1 n1 => Rn (d + 1) bc bs mX13_isLetter 7 [some (vI x0)] (v.toList ++ []) h1 n1 Q)) : Rn (d + 1) (bc) (bs) mX13_isLetter 0 [some (vI x0)] [] h n Q := by
  refine Rn_iload_n dX13_isLetter_0 rfl rfl ?_
  refine Rn_iconst dX13_isLetter_1 rfl ?_
  refine Rn_bipush dX13_isLetter_2 rfl ?_
  exact Rn_callS (avs := [vI x0, vI 0, vI 7]) (st := []) (bc1 := 0) (bs1 := 0) (bc2 := bc) (bs2 := bs) fx_X13_isIn dX13_isLetter_4 (Or.inl wd_1463) wd_1464 rfl (Nat.le_of_ble_eq_true rfl) (Nat.le_of_ble_eq_true rfl) (by omega) (by omega) (ls1 := [some (vI x0), some (vI 0), some (vI 7)]) rfl k
theorem BX13_isLetter_7 {d bc bs : Nat} {h : aH} {n : Nat} {Q : aQ} {x0 s0 : Int} (b1 : s0 = 0 ∨ s0 = 1) (k : Q (some (vI s0)) h n) : Rn d (bc) (bs) mX13_isLetter 7 [some (vI x0)] [vI s0] h n Q := by
  exact Rn_zreturn rfl dX13_isLetter_7 b1 k
theorem dX13_halves_0 : decode cX13_halves 0 = .ok (.iload_n 1, 1) := by decide +kernel
theorem dX13_halves_1 : decode cX13_halves 1 = .ok (.invokestatic 470, 3) := by decide +kernel
theorem dX13_halves_4 : decode cX13_halves 4 = .ok (.ifCond .eq 32, 3) := by decide +kernel
theorem dX13_halves_7 : decode cX13_halves 7 = .ok (.iload_n 2, 1) := by decide +kernel
theorem dX13_halves_8 : decode cX13_halves 8 = .ok (.invokestatic 470, 3) := by decide +kernel
theorem dX13_halves_11 : decode cX13_halves 11 = .ok (.ifCond .eq 25, 3) := by decide +kernel
theorem dX13_halves_14 : decode cX13_halves 14 = .ok (.iload_n 1, 1) := by decide +kernel
theorem dX13_halves_15 : decode cX13_halves 15 = .ok (.iload_n 2, 1) := by decide +kernel
theorem dX13_halves_16 : decode cX13_halves 16 = .ok (.if_icmp .eq 20, 3) := by decide +kernel
theorem dX13_halves_19 : decode cX13_halves 19 = .ok (.aload_n 0, 1) := by decide +kernel
theorem dX13_halves_20 : decode cX13_halves 20 = .ok (.getfield 7, 3) := by decide +kernel
theorem dX13_halves_23 : decode cX13_halves 23 = .ok (.sipush 147, 3) := by decide +kernel
theorem dX13_halves_26 : decode cX13_halves 26 = .ok (.iload_n 1, 1) := by decide +kernel
theorem dX13_halves_27 : decode cX13_halves 27 = .ok (.iadd, 1) := by decide +kernel
theorem dX13_halves_28 : decode cX13_halves 28 = .ok (.iaload, 1) := by decide +kernel
theorem dX13_halves_29 : decode cX13_halves 29 = .ok (.iload_n 2, 1) := by decide +kernel
theorem dX13_halves_30 : decode cX13_halves 30 = .ok (.invokestatic 246, 3) := by decide +kernel
theorem dX13_halves_33 : decode cX13_halves 33 = .ok (.ifCond .eq 5, 3) := by decide +kernel
theorem dX13_halves_36 : decode cX13_halves 36 = .ok (.iconst 0, 1) := by decide +kernel
theorem dX13_halves_37 : decode cX13_halves 37 = .ok (.ireturn, 1) := by decide +kernel
theorem dX13_halves_38 : decode cX13_halves 38 = .ok (.aload_n 0, 1) := by decide +kernel
theorem dX13_halves_39 : decode cX13_halves 39 = .ok (.getfield 7, 3) := by decide +kernel
theorem dX13_halves_42 : decode cX13_halves 42 = .ok (.sipush 147, 3) := by decide +kernel
theorem dX13_halves_45 : decode cX13_halves 45 = .ok (.iload_n 1, 1) := by decide +kernel
theorem dX13_halves_46 : decode cX13_halves 46 = .ok (.iadd, 1) := by decide +kernel
theorem dX13_halves_47 : decode cX13_halves 47 = .ok (.dup2, 1) := by decide +kernel
theorem dX13_halves_48 : decode cX13_halves 48 = .ok (.iaload, 1) := by decide +kernel
theorem dX13_halves_49 : decode cX13_halves 49 = .ok (.iconst 1, 1) := by decide +kernel
theorem dX13_halves_50 : decode cX13_halves 50 = .ok (.iload_n 2, 1) := by decide +kernel
theorem dX13_halves_51 : decode cX13_halves 51 = .ok (.ishl, 1) := by decide +kernel
theorem dX13_halves_52 : decode cX13_halves 52 = .ok (.ior, 1) := by decide +kernel
theorem dX13_halves_53 : decode cX13_halves 53 = .ok (.iastore, 1) := by decide +kernel
theorem dX13_halves_54 : decode cX13_halves 54 = .ok (.aload_n 0, 1) := by decide +kernel
theorem dX13_halves_55 : decode cX13_halves 55 = .ok (.getfield 7, 3) := by decide +kernel
theorem dX13_halves_58 : decode cX13_halves 58 = .ok (.sipush 147, 3) := by decide +kernel
theorem dX13_halves_61 : decode cX13_halves 61 = .ok (.iload_n 2, 1) := by decide +kernel
theorem dX13_halves_62 : decode cX13_halves 62 = .ok (.iadd, 1) := by decide +kernel
theorem dX13_halves_63 : decode cX13_halves 63 = .ok (.dup2, 1) := by decide +kernel
theorem dX13_halves_64 : decode cX13_halves 64 = .ok (.iaload, 1) := by decide +kernel
theorem dX13_halves_65 : decode cX13_halves 65 = .ok (.iconst 1, 1) := by decide +kernel
theorem dX13_halves_66 : decode cX13_halves 66 = .ok (.iload_n 1, 1) := by decide +kernel
theorem dX13_halves_67 : decode cX13_halves 67 = .ok (.ishl, 1) := by decide +kernel
theorem dX13_halves_68 : decode cX13_halves 68 = .ok (.ior, 1) := by decide +kernel
theorem dX13_halves_69 : decode cX13_halves 69 = .ok (.iastore, 1) := by decide +kernel
theorem dX13_halves_70 : decode cX13_halves 70 = .ok (.iconst 1, 1) := by decide +kernel
theorem dX13_halves_71 : decode cX13_halves 71 = .ok (.ireturn, 1) := by decide +kernel
theorem BX13_halves_0 {d bc bs : Nat} {h : aH} {n : Nat} {Q : aQ} {r0 : Option Nat} {x1 x2 : Int} (k : Rn d 0 0 mX13_isLetter 0 [some (vI x1)] [] h n (fun v h1 n1 => Rn (d + 1) bc bs mX13_halves 4 [some (vR r0), some (vI x1), some (vI x2)] (v.toList ++ []) h1 n1 Q)) : Rn (d + 1) (bc) (bs) mX13_halves 0 [some (vR r0), some (vI x1), some (vI x2)] [] h n Q := by
  refine Rn_iload_n dX13_halves_0 rfl rfl ?_
  exact Rn_callS (avs := [vI x1]) (st := []) (bc1 := 0) (bs1 := 0) (bc2 := bc) (bs2 := bs) fx_X13_isLetter dX13_halves_1 (Or.inl wd_1980) wd_1981 rfl (Nat.le_of_ble_eq_true rfl) (Nat.le_of_ble_eq_true rfl) (by omega) (by omega) (ls1 := [some (vI x1)]) rfl k
theorem BX13_halves_4 {d bc bs : Nat} {h : aH} {n : Nat} {Q : aQ} {r0 : Option Nat} {x1 x2 s0 : Int} (kt : s0 = 0 → Rn d bc bs mX13_halves 36 [some (vR r0), some (vI x1), some (vI x2)] [] h n Q) (kf : s0 ≠ 0 → Rn d bc bs mX13_halves 7 [some (vR r0), some (vI x1), some (vI x2)] [] h n Q) : Rn d (bc) (bs) mX13_halves 4 [some (vR r0), some (vI x1), some (vI x2)] [vI s0] h n Q := by
  refine Rn_ifeq (tgt := 36) dX13_halves_4 rfl ?_ ?_
  · exact kt
  · exact kf
theorem BX13_halves_7 {d bc bs : Nat} {h : aH} {n : Nat} {Q : aQ} {r0 : Option Nat} {x1 x2 : Int} (k : Rn d 0 0 mX13_isLetter 0 [some (vI x2)] [] h n (fun v h1 n1 => Rn (d + 1) bc bs mX13_halves 11 [some (vR r0), some (vI x1), some (vI x2)] (v.toList ++ []) h1 n1 Q)) : Rn (d + 1) (bc) (bs) mX13_halves 7 [some (vR r0), some (vI x1), some (vI x2)] [] h n Q := by
  refine Rn_iload_n dX13_halves_7 rfl rfl ?_
  exact Rn_callS (avs := [vI x2]) (st := []) (bc1 := 0) (bs1 := 0) (bc2 := bc) (bs2 := bs) fx_X13_isLetter dX13_halves_8 (Or.inl wd_1980) wd_1981 rfl (Nat.le_of_ble_eq_true rfl) (Nat.le_of_ble_eq_true rfl) (by omega) (by omega) (ls1 := [some (vI x2)]) rfl k
theorem BX13_halves_11 {d bc bs : Nat} {h : aH} {n : Nat} {Q : aQ} {r0 : Option Nat} {x1 x2 s0 : Int} (kt : s0 = 0 → Rn d bc bs mX13_halves 36 [some (vR r0), some (vI x1), some (vI x2)] [] h n Q) (kf : s0 ≠ 0 → Rn d bc bs mX13_halves 14 [some (vR r0), some (vI x1), some (vI x2)] [] h n Q) : Rn d (bc) (bs) mX13_halves 11 [some (vR r0), some (vI x1), some (vI x2)] [vI s0] h n Q := by
  refine Rn_ifeq (tgt := 36) dX13_halves_11 rfl ?_ ?_
  · exact kt
  · exact kf
theorem BX13_halves_14 {d bc bs : Nat} {h : aH} {n : Nat} {Q : aQ} {r0 : Option Nat} {x1 x2 : Int} (kt : x1 = x2 → Rn d bc bs mX13_halves 36 [some (vR r0), some (vI x1), some (vI x2)] [] h n Q) (kf : x1 ≠ x2 → Rn d bc bs mX13_halves 19 [some (vR r0), some (vI x1), some (vI x2)] [] h n Q) : Rn d (bc) (bs) mX13_halves 14 [some (vR r0), some (vI x1), some (vI x2)] [] h n Q := by
  refine Rn_iload_n dX13_halves_14 rfl rfl ?_
  refine Rn_iload_n dX13_halves_15 rfl rfl ?_
  refine Rn_icmpeq (tgt := 36) dX13_halves_16 rfl ?_ ?_
  · exact kt
  · exact kf
theorem BX13_halves_19 {d bc bs : Nat} {h : aH} {n : Nat} {Q : aQ} {ar0 at3 : Nat} {x1 x2 v8 : Int} {f1 : List aV} {w6 : List Int} (h2 : h ar0 = cO 13 f1) (g4 : f1[0]? = some (vR (some at3))) (b5 : -2147483648 ≤ 147 + x1 ∧ 147 + x1 < 2147483648) (h7 : h at3 = cI w6) (i9 : 0 ≤ 147 + x1) (g10 : w6[(147 + x1 : Int).toNat]? = some v8) (k : Rn d 0 0 mX13_has 0 [some (vI v8), some (vI x2)] [] h n (fun v h1 n1 => Rn (d + 1) bc bs mX13_halves 33 [some (vR (some ar0)), some (vI x1), some (vI x2)] (v.toList ++ []) h1 n1 Q)) : Rn (d + 1) (bc) (bs) mX13_halves 19 [some (vR (some ar0)), some (vI x1), some (vI x2)] [] h n Q := by
  refine Rn_aload_n dX13_halves_19 rfl rfl rfl ?_
  refine Rn_getfield (ci := 13) (k := 0) dX13_halves_20 rfl in_13 (Nat.le_of_ble_eq_true rfl) wd_1352 rfl h2 g4 ?_
  refine Rn_sipush dX13_halves_23 rfl ?_
  refine Rn_iload_n dX13_halves_26 rfl rfl ?_
  refine Rn_iadd dX13_halves_27 ?_
  rw [w32_id b5.1 b5.2]
  refine Rn_iaload dX13_halves_28 h7 i9 g10 ?_
  refine Rn_iload_n dX13_halves_29 rfl rfl ?_
  exact Rn_callS (avs := [vI v8, vI x2]) (st := []) (bc1 := 0) (bs1 := 0) (bc2 := bc) (bs2 := bs) fx_X13_has dX13_halves_30 (Or.inl wd_1540) wd_1541 rfl (Nat.le_of_ble_eq_true rfl) (Nat.le_of_ble_eq_true rfl) (by omega) (by omega) (ls1 := [some (vI v8), some (vI x2)]) rfl k
theorem BX13_halves_33 {d bc bs : Nat} {h : aH} {n : Nat} {Q : aQ} {r0 : Option Nat} {x1 x2 s0 : Int} (kt : s0 = 0 → Rn d bc bs mX13_halves 38 [some (vR r0), some (vI x1), some (vI x2)] [] h n Q) (kf : s0 ≠ 0 → Rn d bc bs mX13_halves 36 [some (vR r0), some (vI x1), some (vI x2)] [] h n Q) : Rn d (bc) (bs) mX13_halves 33 [some (vR r0), some (vI x1), some (vI x2)] [vI s0] h n Q := by
  refine Rn_ifeq (tgt := 38) dX13_halves_33 rfl ?_ ?_
  · exact kt
  · exact kf
theorem BX13_halves_36 {d bc bs : Nat} {h : aH} {n : Nat} {Q : aQ} {r0 : Option Nat} {x1 x2 : Int} (k : Q (some (vI 0)) h n) : Rn d (bc) (bs) mX13_halves 36 [some (vR r0), some (vI x1), some (vI x2)] [] h n Q := by
  refine Rn_iconst dX13_halves_36 rfl ?_
  exact Rn_zreturn rfl dX13_halves_37 (by decide) k
theorem BX13_halves_38 {d bc bs : Nat} {h : aH} {n : Nat} {Q : aQ} {ar0 at3 : Nat} {x1 x2 v8 : Int} {f1 : List aV} {w6 : List Int} (h2 : h ar0 = cO 13 f1) (g4 : f1[0]? = some (vR (some at3))) (b5 : -2147483648 ≤ 147 + x1 ∧ 147 + x1 < 2147483648) (h7 : h at3 = cI w6) (i9 : 0 ≤ 147 + x1) (g10 : w6[(147 + x1 : Int).toNat]? = some v8) (j11 : 147 + x1 < w6.length) (z12 : at3 ≠ 0) (k : Rn d bc bs mX13_halves 54 [some (vR (some ar0)), some (vI x1), some (vI x2)] [] (up h at3 (cI (w6.set (147 + x1 : Int).toNat (or32 v8 (shl32 1 x2))))) n Q) : Rn d (bc) (bs) mX13_halves 38 [some (vR (some ar0)), some (vI x1), some (vI x2)] [] h n Q := by
  refine Rn_aload_n dX13_halves_38 rfl rfl rfl ?_
  refine Rn_getfield (ci := 13) (k := 0) dX13_halves_39 rfl in_13 (Nat.le_of_ble_eq_true rfl) wd_1352 rfl h2 g4 ?_
  refine Rn_sipush dX13_halves_42 rfl ?_
  refine Rn_iload_n dX13_halves_45 rfl rfl ?_
  refine Rn_iadd dX13_halves_46 ?_
  rw [w32_id b5.1 b5.2]
  refine Rn_dup2 dX13_halves_47 rfl rfl ?_
  refine Rn_iaload dX13_halves_48 h7 i9 g10 ?_
  refine Rn_iconst dX13_halves_49 rfl ?_
  refine Rn_iload_n dX13_halves_50 rfl rfl ?_
  refine Rn_ishl dX13_halves_51 ?_
  refine Rn_ior dX13_halves_52 ?_
  refine Rn_iastore dX13_halves_53 z12 h7 i9 j11 ?_
  exact k
theorem BX13_halves_54 {d bc bs : Nat} {h : aH} {n : Nat} {Q : aQ} {ar0 at3 : Nat} {x1 x2 v8 : Int} {f1 : List aV} {w6 : List Int} (h2 : h ar0 = cO 13 f1) (g4 : f1[0]? = some (vR (some at3))) (b5 : -2147483648 ≤ 147 + x2 ∧ 147 + x2 < 2147483648) (h7 : h at3 = cI w6) (i9 : 0 ≤ 147 + x2) (g10 : w6[(147 + x2 : Int).toNat]? = some v8) (j11 : 147 + x2 < w6.length) (z12 : at3 ≠ 0) (k : Rn d bc bs mX13_halves 70 [some (vR (some ar0)), some (vI x1), some (vI x2)] [] (up h at3 (cI (w6.set (147 + x2 : Int).toNat (or32 v8 (shl32 1 x1))))) n Q) : Rn d (bc) (bs) mX13_halves 54 [some (vR (some ar0)), some (vI x1), some (vI x2)] [] h n Q := by
  refine Rn_aload_n dX13_halves_54 rfl rfl rfl ?_
  refine Rn_getfield (ci := 13) (k := 0) dX13_halves_55 rfl in_13 (Nat.le_of_ble_eq_true rfl) wd_1352 rfl h2 g4 ?_
  refine Rn_sipush dX13_halves_58 rfl ?_
  refine Rn_iload_n dX13_halves_61 rfl rfl ?_
  refine Rn_iadd dX13_halves_62 ?_
  rw [w32_id b5.1 b5.2]
  refine Rn_dup2 dX13_halves_63 rfl rfl ?_
  refine Rn_iaload dX13_halves_64 h7 i9 g10 ?_
  refine Rn_iconst dX13_halves_65 rfl ?_
  refine Rn_iload_n dX13_halves_66 rfl rfl ?_
  refine Rn_ishl dX13_halves_67 ?_
  refine Rn_ior dX13_halves_68 ?_
  refine Rn_iastore dX13_halves_69 z12 h7 i9 j11 ?_
  exact k
theorem BX13_halves_70 {d bc bs : Nat} {h : aH} {n : Nat} {Q : aQ} {r0 : Option Nat} {x1 x2 : Int} (k : Q (some (vI 1)) h n) : Rn d (bc) (bs) mX13_halves 70 [some (vR r0), some (vI x1), some (vI x2)] [] h n Q := by
  refine Rn_iconst dX13_halves_70 rfl ?_
  exact Rn_zreturn rfl dX13_halves_71 (by decide) k
theorem dX13_canSort_0 : decode cX13_canSort 0 = .ok (.iconst 0, 1) := by decide +kernel
theorem dX13_canSort_1 : decode cX13_canSort 1 = .ok (.istore_n 2, 1) := by decide +kernel
theorem dX13_canSort_2 : decode cX13_canSort 2 = .ok (.iload_n 2, 1) := by decide +kernel
theorem dX13_canSort_3 : decode cX13_canSort 3 = .ok (.iload_n 1, 1) := by decide +kernel
theorem dX13_canSort_4 : decode cX13_canSort 4 = .ok (.if_icmp .ge 43, 3) := by decide +kernel
theorem dX13_canSort_7 : decode cX13_canSort 7 = .ok (.aload_n 0, 1) := by decide +kernel
theorem dX13_canSort_8 : decode cX13_canSort 8 = .ok (.getfield 62, 3) := by decide +kernel
theorem dX13_canSort_11 : decode cX13_canSort 11 = .ok (.iload_n 2, 1) := by decide +kernel
theorem dX13_canSort_12 : decode cX13_canSort 12 = .ok (.iaload, 1) := by decide +kernel
theorem dX13_canSort_13 : decode cX13_canSort 13 = .ok (.aload_n 0, 1) := by decide +kernel
theorem dX13_canSort_14 : decode cX13_canSort 14 = .ok (.getfield 62, 3) := by decide +kernel
theorem dX13_canSort_17 : decode cX13_canSort 17 = .ok (.iload_n 1, 1) := by decide +kernel
theorem dX13_canSort_18 : decode cX13_canSort 18 = .ok (.iaload, 1) := by decide +kernel
theorem dX13_canSort_19 : decode cX13_canSort 19 = .ok (.if_icmp .ne 22, 3) := by decide +kernel
theorem dX13_canSort_22 : decode cX13_canSort 22 = .ok (.aload_n 0, 1) := by decide +kernel
theorem dX13_canSort_23 : decode cX13_canSort 23 = .ok (.getfield 7, 3) := by decide +kernel
theorem dX13_canSort_26 : decode cX13_canSort 26 = .ok (.sipush 147, 3) := by decide +kernel
theorem dX13_canSort_29 : decode cX13_canSort 29 = .ok (.iload_n 1, 1) := by decide +kernel
theorem dX13_canSort_30 : decode cX13_canSort 30 = .ok (.iadd, 1) := by decide +kernel
theorem dX13_canSort_31 : decode cX13_canSort 31 = .ok (.iaload, 1) := by decide +kernel
theorem dX13_canSort_32 : decode cX13_canSort 32 = .ok (.iload_n 2, 1) := by decide +kernel
theorem dX13_canSort_33 : decode cX13_canSort 33 = .ok (.invokestatic 246, 3) := by decide +kernel
theorem dX13_canSort_36 : decode cX13_canSort 36 = .ok (.ifCond .eq 5, 3) := by decide +kernel
theorem dX13_canSort_39 : decode cX13_canSort 39 = .ok (.iconst 0, 1) := by decide +kernel
theorem dX13_canSort_40 : decode cX13_canSort 40 = .ok (.ireturn, 1) := by decide +kernel
theorem dX13_canSort_41 : decode cX13_canSort 41 = .ok (.iinc 2 1, 3) := by decide +kernel
theorem dX13_canSort_44 : decode cX13_canSort 44 = .ok (.goto (-42), 3) := by decide +kernel
theorem dX13_canSort_47 : decode cX13_canSort 47 = .ok (.iconst 1, 1) := by decide +kernel
theorem dX13_canSort_48 : decode cX13_canSort 48 = .ok (.ireturn, 1) := by decide +kernel
theorem BX13_canSort_0 {d bc bs : Nat} {h : aH} {n : Nat} {Q : aQ} {r0 : Option Nat} {x1 : Int} {l2 : Option aV} (k : Rn d bc bs mX13_canSort 2 [some (vR r0), some (vI x1), some (vI 0)] [] h n Q) : Rn d (bc) (bs) mX13_canSort 0 [some (vR r0), some (vI x1), l2] [] h n Q := by
  refine Rn_iconst dX13_canSort_0 rfl ?_
  refine Rn_istore_n dX13_canSort_1 rfl (Nat.le_of_ble_eq_true rfl) rfl rfl ?_
  exact k
theorem BX13_canSort_2 {d bc bs : Nat} {h : aH} {n : Nat} {Q : aQ} {r0 : Option Nat} {x1 x2 : Int} (kt : x1 ≤ x2 → Rn d bc bs mX13_canSort 47 [some (vR r0), some (vI x1), some (vI x2)] [] h n Q) (kf : x2 < x1 → Rn d bc bs mX13_canSort 7 [some (vR r0), some (vI x1), some (vI x2)] [] h n Q) : Rn d (bc) (bs) mX13_canSort 2 [some (vR r0), some (vI x1), some (vI x2)] [] h n Q := by
  refine Rn_iload_n dX13_canSort_2 rfl rfl ?_
  refine Rn_iload_n dX13_canSort_3 rfl rfl ?_
  refine Rn_icmpge (tgt := 47) dX13_canSort_4 rfl ?_ ?_
  · exact kt
  · exact kf
theorem BX13_canSort_7 {d bc bs : Nat} {h : aH} {n : Nat} {Q : aQ} {ar0 at3 : Nat} {x1 x2 v7 v10 : Int} {f1 : List aV} {w5 : List Int} (h2 : h ar0 = cO 13 f1) (g4 : f1[32]? = some (vR (some at3))) (h6 : h at3 = cI w5) (i8 : 0 ≤ x2) (g9 : w5[(x2 : Int).toNat]? = some v7) (i11 : 0 ≤ x1) (g12 : w5[(x1 : Int).toNat]? = some v10) (kt : v7 ≠ v10 → Rn d bc bs mX13_canSort 41 [some (vR (some ar0)), some (vI x1), some (vI x2)] [] h n Q) (kf : v7 = v10 → Rn d bc bs mX13_canSort 22 [some (vR (some ar0)), some (vI x1), some (vI x2)] [] h n Q) : Rn d (bc) (bs) mX13_canSort 7 [some (vR (some ar0)), some (vI x1), some (vI x2)] [] h n Q := by
  refine Rn_aload_n dX13_canSort_7 rfl rfl rfl ?_
  refine Rn_getfield (ci := 13) (k := 32) dX13_canSort_8 rfl in_13 (Nat.le_of_ble_eq_true rfl) wd_1384 rfl h2 g4 ?_
  refine Rn_iload_n dX13_canSort_11 rfl rfl ?_
  refine Rn_iaload dX13_canSort_12 h6 i8 g9 ?_
  refine Rn_aload_n dX13_canSort_13 rfl rfl rfl ?_
  refine Rn_getfield (ci := 13) (k := 32) dX13_canSort_14 rfl in_13 (Nat.le_of_ble_eq_true rfl) wd_1384 rfl h2 g4 ?_
  refine Rn_iload_n dX13_canSort_17 rfl rfl ?_
  refine Rn_iaload dX13_canSort_18 h6 i11 g12 ?_
  refine Rn_icmpne (tgt := 41) dX13_canSort_19 rfl ?_ ?_
  · exact kt
  · exact kf
theorem BX13_canSort_22 {d bc bs : Nat} {h : aH} {n : Nat} {Q : aQ} {ar0 at3 : Nat} {x1 x2 v8 : Int} {f1 : List aV} {w6 : List Int} (h2 : h ar0 = cO 13 f1) (g4 : f1[0]? = some (vR (some at3))) (b5 : -2147483648 ≤ 147 + x1 ∧ 147 + x1 < 2147483648) (h7 : h at3 = cI w6) (i9 : 0 ≤ 147 + x1) (g10 : w6[(147 + x1 : Int).toNat]? = some v8) (k : Rn d 0 0 mX13_has 0 [some (vI v8), some (vI x2)] [] h n (fun v h1 n1 => Rn (d + 1) bc bs mX13_canSort 36 [some (vR (some ar0)), some (vI x1), some (vI x2)] (v.toList ++ []) h1 n1 Q)) : Rn (d + 1) (bc) (bs) mX13_canSort 22 [some (vR (some ar0)), some (vI x1), some (vI x2)] [] h n Q := by
  refine Rn_aload_n dX13_canSort_22 rfl rfl rfl ?_
  refine Rn_getfield (ci := 13) (k := 0) dX13_canSort_23 rfl in_13 (Nat.le_of_ble_eq_true rfl) wd_1352 rfl h2 g4 ?_
  refine Rn_sipush dX13_canSort_26 rfl ?_
  refine Rn_iload_n dX13_canSort_29 rfl rfl ?_
  refine Rn_iadd dX13_canSort_30 ?_
  rw [w32_id b5.1 b5.2]
  refine Rn_iaload dX13_canSort_31 h7 i9 g10 ?_
  refine Rn_iload_n dX13_canSort_32 rfl rfl ?_
  exact Rn_callS (avs := [vI v8, vI x2]) (st := []) (bc1 := 0) (bs1 := 0) (bc2 := bc) (bs2 := bs) fx_X13_has dX13_canSort_33 (Or.inl wd_1540) wd_1541 rfl (Nat.le_of_ble_eq_true rfl) (Nat.le_of_ble_eq_true rfl) (by omega) (by omega) (ls1 := [some (vI v8), some (vI x2)]) rfl k
theorem BX13_canSort_36 {d bc bs : Nat} {h : aH} {n : Nat} {Q : aQ} {r0 : Option Nat} {x1 x2 s0 : Int} (kt : s0 = 0 → Rn d bc bs mX13_canSort 41 [some (vR r0), some (vI x1), some (vI x2)] [] h n Q) (kf : s0 ≠ 0 → Rn d bc bs mX13_canSort 39 [some (vR r0), some (vI x1), some (vI x2)] [] h n Q) : Rn d (bc) (bs) mX13_canSort 36 [some (vR r0), some (vI x1), some (vI x2)] [vI s0] h n Q := by
  refine Rn_ifeq (tgt := 41) dX13_canSort_36 rfl ?_ ?_
  · exact kt
  · exact kf
theorem BX13_canSort_39 {d bc bs : Nat} {h : aH} {n : Nat} {Q : aQ} {r0 : Option Nat} {x1 x2 : Int} (k : Q (some (vI 0)) h n) : Rn d (bc) (bs) mX13_canSort 39 [some (vR r0), some (vI x1), some (vI x2)] [] h n Q := by
  refine Rn_iconst dX13_canSort_39 rfl ?_
  exact Rn_zreturn rfl dX13_canSort_40 (by decide) k
theorem BX13_canSort_41 {d bc bs : Nat} {h : aH} {n : Nat} {Q : aQ} {r0 : Option Nat} {x1 x2 : Int} (b1 : -2147483648 ≤ x2 + 1 ∧ x2 + 1 < 2147483648) (k : Rn d bc bs mX13_canSort 2 [some (vR r0), some (vI x1), some (vI (x2 + 1))] [] h n Q) : Rn d (bc) (bs) mX13_canSort 41 [some (vR r0), some (vI x1), some (vI x2)] [] h n Q := by
  refine Rn_iinc dX13_canSort_41 rfl (Nat.le_of_ble_eq_true rfl) rfl rfl rfl ?_
  rw [w32_id b1.1 b1.2]
  refine Rn_goto (tgt := 2) dX13_canSort_44 rfl ?_
  exact k
theorem BX13_canSort_47 {d bc bs : Nat} {h : aH} {n : Nat} {Q : aQ} {r0 : Option Nat} {x1 x2 : Int} (k : Q (some (vI 1)) h n) : Rn d (bc) (bs) mX13_canSort 47 [some (vR r0), some (vI x1), some (vI x2)] [] h n Q := by
  refine Rn_iconst dX13_canSort_47 rfl ?_
  exact Rn_zreturn rfl dX13_canSort_48 (by decide) k
theorem dX13_areSorted_0 : decode cX13_areSorted 0 = .ok (.iconst 0, 1) := by decide +kernel
theorem dX13_areSorted_1 : decode cX13_areSorted 1 = .ok (.istore_n 3, 1) := by decide +kernel
theorem dX13_areSorted_2 : decode cX13_areSorted 2 = .ok (.iconst 0, 1) := by decide +kernel
theorem dX13_areSorted_3 : decode cX13_areSorted 3 = .ok (.istore 4, 2) := by decide +kernel
theorem dX13_areSorted_5 : decode cX13_areSorted 5 = .ok (.iload 4, 2) := by decide +kernel
theorem dX13_areSorted_7 : decode cX13_areSorted 7 = .ok (.bipush 8, 2) := by decide +kernel
theorem dX13_areSorted_9 : decode cX13_areSorted 9 = .ok (.if_icmp .ge 17, 3) := by decide +kernel
theorem dX13_areSorted_12 : decode cX13_areSorted 12 = .ok (.aload_n 0, 1) := by decide +kernel
theorem dX13_areSorted_13 : decode cX13_areSorted 13 = .ok (.getfield 62, 3) := by decide +kernel
theorem dX13_areSorted_16 : decode cX13_areSorted 16 = .ok (.iload 4, 2) := by decide +kernel
theorem dX13_areSorted_18 : decode cX13_areSorted 18 = .ok (.iconst (-1), 1) := by decide +kernel
theorem dX13_areSorted_19 : decode cX13_areSorted 19 = .ok (.iastore, 1) := by decide +kernel
theorem dX13_areSorted_20 : decode cX13_areSorted 20 = .ok (.iinc 4 1, 3) := by decide +kernel
theorem dX13_areSorted_23 : decode cX13_areSorted 23 = .ok (.goto (-18), 3) := by decide +kernel
theorem dX13_areSorted_26 : decode cX13_areSorted 26 = .ok (.iload_n 3, 1) := by decide +kernel
theorem dX13_areSorted_27 : decode cX13_areSorted 27 = .ok (.ifCond .lt 78, 3) := by decide +kernel
theorem dX13_areSorted_30 : decode cX13_areSorted 30 = .ok (.iload_n 3, 1) := by decide +kernel
theorem dX13_areSorted_31 : decode cX13_areSorted 31 = .ok (.iload_n 1, 1) := by decide +kernel
theorem dX13_areSorted_32 : decode cX13_areSorted 32 = .ok (.if_icmp .ge 73, 3) := by decide +kernel
theorem dX13_areSorted_35 : decode cX13_areSorted 35 = .ok (.aload_n 0, 1) := by decide +kernel
theorem dX13_areSorted_36 : decode cX13_areSorted 36 = .ok (.getfield 62, 3) := by decide +kernel
theorem dX13_areSorted_39 : decode cX13_areSorted 39 = .ok (.iload_n 3, 1) := by decide +kernel
theorem dX13_areSorted_40 : decode cX13_areSorted 40 = .ok (.dup2, 1) := by decide +kernel
theorem dX13_areSorted_41 : decode cX13_areSorted 41 = .ok (.iaload, 1) := by decide +kernel
theorem dX13_areSorted_42 : decode cX13_areSorted 42 = .ok (.iconst 1, 1) := by decide +kernel
theorem dX13_areSorted_43 : decode cX13_areSorted 43 = .ok (.iadd, 1) := by decide +kernel
theorem dX13_areSorted_44 : decode cX13_areSorted 44 = .ok (.iastore, 1) := by decide +kernel
theorem dX13_areSorted_45 : decode cX13_areSorted 45 = .ok (.aload_n 0, 1) := by decide +kernel
theorem dX13_areSorted_46 : decode cX13_areSorted 46 = .ok (.getfield 62, 3) := by decide +kernel
theorem dX13_areSorted_49 : decode cX13_areSorted 49 = .ok (.iload_n 3, 1) := by decide +kernel
theorem dX13_areSorted_50 : decode cX13_areSorted 50 = .ok (.iaload, 1) := by decide +kernel
theorem dX13_areSorted_51 : decode cX13_areSorted 51 = .ok (.iload_n 2, 1) := by decide +kernel
theorem dX13_areSorted_52 : decode cX13_areSorted 52 = .ok (.if_icmp .ge 24, 3) := by decide +kernel
theorem dX13_areSorted_55 : decode cX13_areSorted 55 = .ok (.aload_n 0, 1) := by decide +kernel
theorem dX13_areSorted_56 : decode cX13_areSorted 56 = .ok (.iload_n 3, 1) := by decide +kernel
theorem dX13_areSorted_57 : decode cX13_areSorted 57 = .ok (.invokevirtual 473, 3) := by decide +kernel
theorem dX13_areSorted_60 : decode cX13_areSorted 60 = .ok (.ifCond .ne 16, 3) := by decide +kernel
theorem dX13_areSorted_63 : decode cX13_areSorted 63 = .ok (.aload_n 0, 1) := by decide +kernel
theorem dX13_areSorted_64 : decode cX13_areSorted 64 = .ok (.getfield 62, 3) := by decide +kernel
theorem dX13_areSorted_67 : decode cX13_areSorted 67 = .ok (.iload_n 3, 1) := by decide +kernel
theorem dX13_areSorted_68 : decode cX13_areSorted 68 = .ok (.dup2, 1) := by decide +kernel
theorem dX13_areSorted_69 : decode cX13_areSorted 69 = .ok (.iaload, 1) := by decide +kernel
theorem dX13_areSorted_70 : decode cX13_areSorted 70 = .ok (.iconst 1, 1) := by decide +kernel
theorem dX13_areSorted_71 : decode cX13_areSorted 71 = .ok (.iadd, 1) := by decide +kernel
theorem dX13_areSorted_72 : decode cX13_areSorted 72 = .ok (.iastore, 1) := by decide +kernel
theorem dX13_areSorted_73 : decode cX13_areSorted 73 = .ok (.goto (-28), 3) := by decide +kernel
theorem dX13_areSorted_76 : decode cX13_areSorted 76 = .ok (.aload_n 0, 1) := by decide +kernel
theorem dX13_areSorted_77 : decode cX13_areSorted 77 = .ok (.getfield 62, 3) := by decide +kernel
theorem dX13_areSorted_80 : decode cX13_areSorted 80 = .ok (.iload_n 3, 1) := by decide +kernel
theorem dX13_areSorted_81 : decode cX13_areSorted 81 = .ok (.iaload, 1) := by decide +kernel
theorem dX13_areSorted_82 : decode cX13_areSorted 82 = .ok (.iload_n 2, 1) := by decide +kernel
theorem dX13_areSorted_83 : decode cX13_areSorted 83 = .ok (.if_icmp .ge 9, 3) := by decide +kernel
theorem dX13_areSorted_86 : decode cX13_areSorted 86 = .ok (.iinc 3 1, 3) := by decide +kernel
theorem dX13_areSorted_89 : decode cX13_areSorted 89 = .ok (.goto (-63), 3) := by decide +kernel
theorem dX13_areSorted_92 : decode cX13_areSorted 92 = .ok (.aload_n 0, 1) := by decide +kernel
theorem dX13_areSorted_93 : decode cX13_areSorted 93 = .ok (.getfield 62, 3) := by decide +kernel
theorem dX13_areSorted_96 : decode cX13_areSorted 96 = .ok (.iload_n 3, 1) := by decide +kernel
theorem dX13_areSorted_97 : decode cX13_areSorted 97 = .ok (.iconst (-1), 1) := by decide +kernel
theorem dX13_areSorted_98 : decode cX13_areSorted 98 = .ok (.iastore, 1) := by decide +kernel
theorem dX13_areSorted_99 : decode cX13_areSorted 99 = .ok (.iinc 3 (-1), 3) := by decide +kernel
theorem dX13_areSorted_102 : decode cX13_areSorted 102 = .ok (.goto (-76), 3) := by decide +kernel
theorem dX13_areSorted_105 : decode cX13_areSorted 105 = .ok (.iload_n 3, 1) := by decide +kernel
theorem dX13_areSorted_106 : decode cX13_areSorted 106 = .ok (.iload_n 1, 1) := by decide +kernel
theorem dX13_areSorted_107 : decode cX13_areSorted 107 = .ok (.if_icmp .ne 7, 3) := by decide +kernel
theorem dX13_areSorted_110 : decode cX13_areSorted 110 = .ok (.iconst 1, 1) := by decide +kernel
theorem dX13_areSorted_111 : decode cX13_areSorted 111 = .ok (.goto 4, 3) := by decide +kernel
theorem dX13_areSorted_114 : decode cX13_areSorted 114 = .ok (.iconst 0, 1) := by decide +kernel
theorem dX13_areSorted_115 : decode cX13_areSorted 115 = .ok (.ireturn, 1) := by decide +kernel
theorem BX13_areSorted_0 {d bc bs : Nat} {h : aH} {n : Nat} {Q : aQ} {r0 : Option Nat} {x1 x2 : Int} {l3 l4 : Option aV} (k : Rn d bc bs mX13_areSorted 5 [some (vR r0), some (vI x1), some (vI x2), some (vI 0), some (vI 0)] [] h n Q) : Rn d (bc) (bs) mX13_areSorted 0 [some (vR r0), some (vI x1), some (vI x2), l3, l4] [] h n Q := by
  refine Rn_iconst dX13_areSorted_0 rfl ?_
  refine Rn_istore_n dX13_areSorted_1 rfl (Nat.le_of_ble_eq_true rfl) rfl rfl ?_
  refine Rn_iconst dX13_areSorted_2 rfl ?_
  refine Rn_istore dX13_areSorted_3 (Nat.le_of_ble_eq_true rfl) rfl rfl ?_
  exact k
theorem BX13_areSorted_5 {d bc bs : Nat} {h : aH} {n : Nat} {Q : aQ} {r0 : Option Nat} {x1 x2 x3 x4 : Int} (kt : 8 ≤ x4 → Rn d bc bs mX13_areSorted 26 [some (vR r0), some (vI x1), some (vI x2), some (vI x3), some (vI x4)] [] h n Q) (kf : x4 < 8 → Rn d bc bs mX13_areSorted 12 [some (vR r0), some (vI x1), some (vI x2), some (vI x3), some (vI x4)] [] h n Q) : Rn d (bc) (bs) mX13_areSorted 5 [some (vR r0), some (vI x1), some (vI x2), some (vI x3), some (vI x4)] [] h n Q := by
  refine Rn_iload dX13_areSorted_5 rfl ?_
  refine Rn_bipush dX13_areSorted_7 rfl ?_
  refine Rn_icmpge (tgt := 26) dX13_areSorted_9 rfl ?_ ?_
  · exact kt
  · exact kf
theorem BX13_areSorted_12 {d bc bs : Nat} {h : aH} {n : Nat} {Q : aQ} {ar0 at3 : Nat} {x1 x2 x3 x4 : Int} {f1 : List aV} {w5 : List Int} (h2 : h ar0 = cO 13 f1) (g4 : f1[32]? = some (vR (some at3))) (h6 : h at3 = cI w5) (i7 : 0 ≤ x4) (j8 : x4 < w5.length) (z9 : at3 ≠ 0) (k : Rn d bc bs mX13_areSorted 20 [some (vR (some ar0)), some (vI x1), some (vI x2), some (vI x3), some (vI x4)] [] (up h at3 (cI (w5.set (x4 : Int).toNat (-1)))) n Q) : Rn d (bc) (bs) mX13_areSorted 12 [some (vR (some ar0)), some (vI x1), some (vI x2), some (vI x3), some (vI x4)] [] h n Q := by
  refine Rn_aload_n dX13_areSorted_12 rfl rfl rfl ?_
  refine Rn_getfield (ci := 13) (k := 32) dX13_areSorted_13 rfl in_13 (Nat.le_of_ble_eq_true rfl) wd_1384 rfl h2 g4 ?_
  refine Rn_iload dX13_areSorted_16 rfl ?_
  refine Rn_iconst dX13_areSorted_18 rfl ?_
  refine Rn_iastore dX13_areSorted_19 z9 h6 i7 j8 ?_
  exact k
theorem BX13_areSorted_20 {d bc bs : Nat} {h : aH} {n : Nat} {Q : aQ} {r0 : Option Nat} {x1 x2 x3 x4 : Int} (b1 : -2147483648 ≤ x4 + 1 ∧ x4 + 1 < 2147483648) (k : Rn d bc bs mX13_areSorted 5 [some (vR r0), some (vI x1), some (vI x2), some (vI x3), some (vI (x4 + 1))] [] h n Q) : Rn d (bc) (bs) mX13_areSorted 20 [some (vR r0), some (vI x1), some (vI x2), some (vI x3), some (vI x4)] [] h n Q := by
  refine Rn_iinc dX13_areSorted_20 rfl (Nat.le_of_ble_eq_true rfl) rfl rfl rfl ?_
  rw [w32_id b1.1 b1.2]
  refine Rn_goto (tgt := 5) dX13_areSorted_23 rfl ?_
  exact k
theorem BX13_areSorted_26 {d bc bs : Nat} {h : aH} {n : Nat} {Q : aQ} {r0 : Option Nat} {x1 x2 x3 x4 : Int} (kt : x3 < 0 → Rn d bc bs mX13_areSorted 105 [some (vR r0), some (vI x1), some (vI x2), some (vI x3), some (vI x4)] [] h n Q) (kf : 0 ≤ x3 → Rn d bc bs mX13_areSorted 30 [some (vR r0), some (vI x1), some (vI x2), some (vI x3), some (vI x4)] [] h n Q) : Rn d (bc) (bs) mX13_areSorted 26 [some (vR r0), some (vI x1), some (vI x2), some (vI x3), some (vI x4)] [] h n Q := by
  refine Rn_iload_n dX13_areSorted_26 rfl rfl ?_
  refine Rn_iflt (tgt := 105) dX13_areSorted_27 rfl ?_ ?_
  · exact kt
  · exact kf
theorem BX13_areSorted_30 {d bc bs : Nat} {h : aH} {n : Nat} {Q : aQ} {r0 : Option Nat} {x1 x2 x3 x4 : Int} (kt : x1 ≤ x3 → Rn d bc bs mX13_areSorted 105 [some (vR r0), some (vI x1), some (vI x2), some (vI x3), some (vI x4)] [] h n Q) (kf : x3 < x1 → Rn d bc bs mX13_areSorted 35 [some (vR r0), some (vI x1), some (vI x2), some (vI x3), some (vI x4)] [] h n Q) : Rn d (bc) (bs) mX13_areSorted 30 [some (vR r0), some (vI x1), some (vI x2), some (vI x3), some (vI x4)] [] h n Q := by
  refine Rn_iload_n dX13_areSorted_30 rfl rfl ?_
  refine Rn_iload_n dX13_areSorted_31 rfl rfl ?_
  refine Rn_icmpge (tgt := 105) dX13_areSorted_32 rfl ?_ ?_
  · exact kt
  · exact kf
theorem BX13_areSorted_35 {d bc bs : Nat} {h : aH} {n : Nat} {Q : aQ} {ar0 at3 : Nat} {x1 x2 x3 x4 v7 : Int} {f1 : List aV} {w5 : List Int} (h2 : h ar0 = cO 13 f1) (g4 : f1[32]? = some (vR (some at3))) (h6 : h at3 = cI w5) (i8 : 0 ≤ x3) (g9 : w5[(x3 : Int).toNat]? = some v7) (b10 : -2147483648 ≤ v7 + 1 ∧ v7 + 1 < 2147483648) (j11 : x3 < w5.length) (z12 : at3 ≠ 0) (k : Rn d bc bs mX13_areSorted 45 [some (vR (some ar0)), some (vI x1), some (vI x2), some (vI x3), some (vI x4)] [] (up h at3 (cI (w5.set (x3 : Int).toNat (v7 + 1)))) n Q) : Rn d (bc) (bs) mX13_areSorted 35 [some (vR (some ar0)), some (vI x1), some (vI x2), some (vI x3), some (vI x4)] [] h n Q := by
  refine Rn_aload_n dX13_areSorted_35 rfl rfl rfl ?_
  refine Rn_getfield (ci := 13) (k := 32) dX13_areSorted_36 rfl in_13 (Nat.le_of_ble_eq_true rfl) wd_1384 rfl h2 g4 ?_
  refine Rn_iload_n dX13_areSorted_39 rfl rfl ?_
  refine Rn_dup2 dX13_areSorted_40 rfl rfl ?_
  refine Rn_iaload dX13_areSorted_41 h6 i8 g9 ?_
  refine Rn_iconst dX13_areSorted_42 rfl ?_
  refine Rn_iadd dX13_areSorted_43 ?_
  rw [w32_id b10.1 b10.2]
  refine Rn_iastore dX13_areSorted_44 z12 h6 i8 j11 ?_
  exact k
theorem BX13_areSorted_45 {d bc bs : Nat} {h : aH} {n : Nat} {Q : aQ} {ar0 at3 : Nat} {x1 x2 x3 x4 v7 : Int} {f1 : List aV} {w5 : List Int} (h2 : h ar0 = cO 13 f1) (g4 : f1[32]? = some (vR (some at3))) (h6 : h at3 = cI w5) (i8 : 0 ≤ x3) (g9 : w5[(x3 : Int).toNat]? = some v7) (kt : x2 ≤ v7 → Rn d bc bs mX13_areSorted 76 [some (vR (some ar0)), some (vI x1), some (vI x2), some (vI x3), some (vI x4)] [] h n Q) (kf : v7 < x2 → Rn d bc bs mX13_areSorted 55 [some (vR (some ar0)), some (vI x1), some (vI x2), some (vI x3), some (vI x4)] [] h n Q) : Rn d (bc) (bs) mX13_areSorted 45 [some (vR (some ar0)), some (vI x1), some (vI x2), some (vI x3), some (vI x4)] [] h n Q := by
  refine Rn_aload_n dX13_areSorted_45 rfl rfl rfl ?_
  refine Rn_getfield (ci := 13) (k := 32) dX13_areSorted_46 rfl in_13 (Nat.le_of_ble_eq_true rfl) wd_1384 rfl h2 g4 ?_
  refine Rn_iload_n dX13_areSorted_49 rfl rfl ?_
  refine Rn_iaload dX13_areSorted_50 h6 i8 g9 ?_
  refine Rn_iload_n dX13_areSorted_51 rfl rfl ?_
  refine Rn_icmpge (tgt := 76) dX13_areSorted_52 rfl ?_ ?_
  · exact kt
  · exact kf
theorem BX13_areSorted_55 {d bc bs : Nat} {h : aH} {n : Nat} {Q : aQ} {ar0 : Nat} {x1 x2 x3 x4 : Int} {f1 : List aV} (h2 : h ar0 = cO 13 f1) (k : Rn d 0 0 mX13_canSort 0 [some (vR (some ar0)), some (vI x3), none] [] h n (fun v h1 n1 => Rn (d + 1) bc bs mX13_areSorted 60 [some (vR (some ar0)), some (vI x1), some (vI x2), some (vI x3), some (vI x4)] (v.toList ++ []) h1 n1 Q)) : Rn (d + 1) (bc) (bs) mX13_areSorted 55 [some (vR (some ar0)), some (vI x1), some (vI x2), some (vI x3), some (vI x4)] [] h n Q := by
  refine Rn_aload_n dX13_areSorted_55 rfl rfl rfl ?_
  refine Rn_iload_n dX13_areSorted_56 rfl rfl ?_
  exact Rn_callV (ci := 13) (avs := [vI x3]) (st := []) (bc1 := 0) (bs1 := 0) (bc2 := bc) (bs2 := bs) fx_X13_canSort dX13_areSorted_57 wd_1995 wd_1997 wd_119 rfl h2 rfl (Nat.le_of_ble_eq_true rfl) (Nat.le_of_ble_eq_true rfl) (by omega) (by omega) (ls1 := [some (vR (some ar0)), some (vI x3), none]) rfl k
theorem BX13_areSorted_60 {d bc bs : Nat} {h : aH} {n : Nat} {Q : aQ} {r0 : Option Nat} {x1 x2 x3 x4 s0 : Int} (kt : s0 ≠ 0 → Rn d bc bs mX13_areSorted 76 [some (vR r0), some (vI x1), some (vI x2), some (vI x3), some (vI x4)] [] h n Q) (kf : s0 = 0 → Rn d bc bs mX13_areSorted 63 [some (vR r0), some (vI x1), some (vI x2), some (vI x3), some (vI x4)] [] h n Q) : Rn d (bc) (bs) mX13_areSorted 60 [some (vR r0), some (vI x1), some (vI x2), some (vI x3), some (vI x4)] [vI s0] h n Q := by
  refine Rn_ifne (tgt := 76) dX13_areSorted_60 rfl ?_ ?_
  · exact kt
  · exact kf
theorem BX13_areSorted_63 {d bc bs : Nat} {h : aH} {n : Nat} {Q : aQ} {ar0 at3 : Nat} {x1 x2 x3 x4 v7 : Int} {f1 : List aV} {w5 : List Int} (h2 : h ar0 = cO 13 f1) (g4 : f1[32]? = some (vR (some at3))) (h6 : h at3 = cI w5) (i8 : 0 ≤ x3) (g9 : w5[(x3 : Int).toNat]? = some v7) (b10 : -2147483648 ≤ v7 + 1 ∧ v7 + 1 < 2147483648) (j11 : x3 < w5.length) (z12 : at3 ≠ 0) (k : Rn d bc bs mX13_areSorted 73 [some (vR (some ar0)), some (vI x1), some (vI x2), some (vI x3), some (vI x4)] [] (up h at3 (cI (w5.set (x3 : Int).toNat (v7 + 1)))) n Q) : Rn d (bc) (bs) mX13_areSorted 63 [some (vR (some ar0)), some (vI x1), some (vI x2), some (vI x3), some (vI x4)] [] h n Q := by
  refine Rn_aload_n dX13_areSorted_63 rfl rfl rfl ?_
  refine Rn_getfield (ci := 13) (k := 32) dX13_areSorted_64 rfl in_13 (Nat.le_of_ble_eq_true rfl) wd_1384 rfl h2 g4 ?_
  refine Rn_iload_n dX13_areSorted_67 rfl rfl ?_
  refine Rn_dup2 dX13_areSorted_68 rfl rfl ?_
  refine Rn_iaload dX13_areSorted_69 h6 i8 g9 ?_
  refine Rn_iconst dX13_areSorted_70 rfl ?_
  refine Rn_iadd dX13_areSorted_71 ?_
  rw [w32_id b10.1 b10.2]
  refine Rn_iastore dX13_areSorted_72 z12 h6 i8 j11 ?_
  exact k
theorem BX13_areSorted_73 {d bc bs : Nat} {h : aH} {n : Nat} {Q : aQ} {r0 : Option Nat} {x1 x2 x3 x4 : Int} (k : Rn d bc bs mX13_areSorted 45 [some (vR r0), some (vI x1), some (vI x2), some (vI x3), some (vI x4)] [] h n Q) : Rn d (bc) (bs) mX13_areSorted 73 [some (vR r0), some (vI x1), some (vI x2), some (vI x3), some (vI x4)] [] h n Q := by
  refine Rn_goto (tgt := 45) dX13_areSorted_73 rfl ?_
  exact k
theorem BX13_areSorted_76 {d bc bs : Nat} {h : aH} {n : Nat} {Q : aQ} {ar0 at3 : Nat} {x1 x2 x3 x4 v7 : Int} {f1 : List aV} {w5 : List Int} (h2 : h ar0 = cO 13 f1) (g4 : f1[32]? = some (vR (some at3))) (h6 : h at3 = cI w5) (i8 : 0 ≤ x3) (g9 : w5[(x3 : Int).toNat]? = some v7) (kt : x2 ≤ v7 → Rn d bc bs mX13_areSorted 92 [some (vR (some ar0)), some (vI x1), some (vI x2), some (vI x3), some (vI x4)] [] h n Q) (kf : v7 < x2 → Rn d bc bs mX13_areSorted 86 [some (vR (some ar0)), some (vI x1), some (vI x2), some (vI x3), some (vI x4)] [] h n Q) : Rn d (bc) (bs) mX13_areSorted 76 [some (vR (some ar0)), some (vI x1), some (vI x2), some (vI x3), some (vI x4)] [] h n Q := by
  refine Rn_aload_n dX13_areSorted_76 rfl rfl rfl ?_
  refine Rn_getfield (ci := 13) (k := 32) dX13_areSorted_77 rfl in_13 (Nat.le_of_ble_eq_true rfl) wd_1384 rfl h2 g4 ?_
  refine Rn_iload_n dX13_areSorted_80 rfl rfl ?_
  refine Rn_iaload dX13_areSorted_81 h6 i8 g9 ?_
  refine Rn_iload_n dX13_areSorted_82 rfl rfl ?_
  refine Rn_icmpge (tgt := 92) dX13_areSorted_83 rfl ?_ ?_
  · exact kt
  · exact kf
theorem BX13_areSorted_86 {d bc bs : Nat} {h : aH} {n : Nat} {Q : aQ} {r0 : Option Nat} {x1 x2 x3 x4 : Int} (b1 : -2147483648 ≤ x3 + 1 ∧ x3 + 1 < 2147483648) (k : Rn d bc bs mX13_areSorted 26 [some (vR r0), some (vI x1), some (vI x2), some (vI (x3 + 1)), some (vI x4)] [] h n Q) : Rn d (bc) (bs) mX13_areSorted 86 [some (vR r0), some (vI x1), some (vI x2), some (vI x3), some (vI x4)] [] h n Q := by
  refine Rn_iinc dX13_areSorted_86 rfl (Nat.le_of_ble_eq_true rfl) rfl rfl rfl ?_
  rw [w32_id b1.1 b1.2]
  refine Rn_goto (tgt := 26) dX13_areSorted_89 rfl ?_
  exact k
theorem BX13_areSorted_92 {d bc bs : Nat} {h : aH} {n : Nat} {Q : aQ} {ar0 at3 : Nat} {x1 x2 x3 x4 : Int} {f1 : List aV} {w5 : List Int} (h2 : h ar0 = cO 13 f1) (g4 : f1[32]? = some (vR (some at3))) (h6 : h at3 = cI w5) (i7 : 0 ≤ x3) (j8 : x3 < w5.length) (z9 : at3 ≠ 0) (k : Rn d bc bs mX13_areSorted 99 [some (vR (some ar0)), some (vI x1), some (vI x2), some (vI x3), some (vI x4)] [] (up h at3 (cI (w5.set (x3 : Int).toNat (-1)))) n Q) : Rn d (bc) (bs) mX13_areSorted 92 [some (vR (some ar0)), some (vI x1), some (vI x2), some (vI x3), some (vI x4)] [] h n Q := by
  refine Rn_aload_n dX13_areSorted_92 rfl rfl rfl ?_
  refine Rn_getfield (ci := 13) (k := 32) dX13_areSorted_93 rfl in_13 (Nat.le_of_ble_eq_true rfl) wd_1384 rfl h2 g4 ?_
  refine Rn_iload_n dX13_areSorted_96 rfl rfl ?_
  refine Rn_iconst dX13_areSorted_97 rfl ?_
  refine Rn_iastore dX13_areSorted_98 z9 h6 i7 j8 ?_
  exact k
theorem BX13_areSorted_99 {d bc bs : Nat} {h : aH} {n : Nat} {Q : aQ} {r0 : Option Nat} {x1 x2 x3 x4 : Int} (b1 : -2147483648 ≤ x3 + (-1) ∧ x3 + (-1) < 2147483648) (k : Rn d bc bs mX13_areSorted 26 [some (vR r0), some (vI x1), some (vI x2), some (vI (x3 + (-1))), some (vI x4)] [] h n Q) : Rn d (bc) (bs) mX13_areSorted 99 [some (vR r0), some (vI x1), some (vI x2), some (vI x3), some (vI x4)] [] h n Q := by
  refine Rn_iinc dX13_areSorted_99 rfl (Nat.le_of_ble_eq_true rfl) rfl rfl rfl ?_
  rw [w32_id b1.1 b1.2]
  refine Rn_goto (tgt := 26) dX13_areSorted_102 rfl ?_
  exact k
theorem BX13_areSorted_105 {d bc bs : Nat} {h : aH} {n : Nat} {Q : aQ} {r0 : Option Nat} {x1 x2 x3 x4 : Int} (kt : x3 ≠ x1 → Rn d bc bs mX13_areSorted 114 [some (vR r0), some (vI x1), some (vI x2), some (vI x3), some (vI x4)] [] h n Q) (kf : x3 = x1 → Rn d bc bs mX13_areSorted 110 [some (vR r0), some (vI x1), some (vI x2), some (vI x3), some (vI x4)] [] h n Q) : Rn d (bc) (bs) mX13_areSorted 105 [some (vR r0), some (vI x1), some (vI x2), some (vI x3), some (vI x4)] [] h n Q := by
  refine Rn_iload_n dX13_areSorted_105 rfl rfl ?_
  refine Rn_iload_n dX13_areSorted_106 rfl rfl ?_
  refine Rn_icmpne (tgt := 114) dX13_areSorted_107 rfl ?_ ?_
  · exact kt
  · exact kf
theorem BX13_areSorted_110 {d bc bs : Nat} {h : aH} {n : Nat} {Q : aQ} {r0 : Option Nat} {x1 x2 x3 x4 : Int} (k : Q (some (vI 1)) h n) : Rn d (bc) (bs) mX13_areSorted 110 [some (vR r0), some (vI x1), some (vI x2), some (vI x3), some (vI x4)] [] h n Q := by
  refine Rn_iconst dX13_areSorted_110 rfl ?_
  refine Rn_goto (tgt := 115) dX13_areSorted_111 rfl ?_
  exact Rn_zreturn rfl dX13_areSorted_115 (by decide) k
theorem BX13_areSorted_114 {d bc bs : Nat} {h : aH} {n : Nat} {Q : aQ} {r0 : Option Nat} {x1 x2 x3 x4 : Int} (k : Q (some (vI 0)) h n) : Rn d (bc) (bs) mX13_areSorted 114 [some (vR r0), some (vI x1), some (vI x2), some (vI x3), some (vI x4)] [] h n Q := by
  refine Rn_iconst dX13_areSorted_114 rfl ?_
  exact Rn_zreturn rfl dX13_areSorted_115 (by decide) k
theorem dX13_laySorters_0 : decode cX13_laySorters 0 = .ok (.iload_n 1, 1) := by decide +kernel
theorem dX13_laySorters_1 : decode cX13_laySorters 1 = .ok (.ifCond .ne 7, 3) := by decide +kernel
theorem dX13_laySorters_4 : decode cX13_laySorters 4 = .ok (.iconst 0, 1) := by decide +kernel
theorem dX13_laySorters_5 : decode cX13_laySorters 5 = .ok (.goto 4, 3) := by decide +kernel
theorem dX13_laySorters_8 : decode cX13_laySorters 8 = .ok (.iconst 1, 1) := by decide +kernel
theorem dX13_laySorters_9 : decode cX13_laySorters 9 = .ok (.istore_n 2, 1) := by decide +kernel
theorem dX13_laySorters_10 : decode cX13_laySorters 10 = .ok (.aload_n 0, 1) := by decide +kernel
theorem dX13_laySorters_11 : decode cX13_laySorters 11 = .ok (.iload_n 1, 1) := by decide +kernel
theorem dX13_laySorters_12 : decode cX13_laySorters 12 = .ok (.iload_n 2, 1) := by decide +kernel
theorem dX13_laySorters_13 : decode cX13_laySorters 13 = .ok (.invokevirtual 476, 3) := by decide +kernel
theorem dX13_laySorters_16 : decode cX13_laySorters 16 = .ok (.ifCond .ne 9, 3) := by decide +kernel
theorem dX13_laySorters_19 : decode cX13_laySorters 19 = .ok (.iinc 2 1, 3) := by decide +kernel
theorem dX13_laySorters_22 : decode cX13_laySorters 22 = .ok (.goto (-12), 3) := by decide +kernel
theorem dX13_laySorters_25 : decode cX13_laySorters 25 = .ok (.iload_n 2, 1) := by decide +kernel
theorem dX13_laySorters_26 : decode cX13_laySorters 26 = .ok (.ireturn, 1) := by decide +kernel
theorem BX13_laySorters_0 {d bc bs : Nat} {h : aH} {n : Nat} {Q : aQ} {r0 : Option Nat} {x1 : Int} {l2 : Option aV} (kt : x1 ≠ 0 → Rn d bc bs mX13_laySorters 8 [some (vR r0), some (vI x1), l2] [] h n Q) (kf : x1 = 0 → Rn d bc bs mX13_laySorters 4 [some (vR r0), some (vI x1), l2] [] h n Q) : Rn d (bc) (bs) mX13_laySorters 0 [some (vR r0), some (vI x1), l2] [] h n Q := by
  refine Rn_iload_n dX13_laySorters_0 rfl rfl ?_
  refine Rn_ifne (tgt := 8) dX13_laySorters_1 rfl ?_ ?_
  · exact kt
  · exact kf
theorem BX13_laySorters_4 {d bc bs : Nat} {h : aH} {n : Nat} {Q : aQ} {r0 : Option Nat} {x1 : Int} {l2 : Option aV} (k : Rn d bc bs mX13_laySorters 10 [some (vR r0), some (vI x1), some (vI 0)] [] h n Q) : Rn d (bc) (bs) mX13_laySorters 4 [some (vR r0), some (vI x1), l2] [] h n Q := by
  refine Rn_iconst dX13_laySorters_4 rfl ?_
  refine Rn_goto (tgt := 9) dX13_laySorters_5 rfl ?_
  refine Rn_istore_n dX13_laySorters_9 rfl (Nat.le_of_ble_eq_true rfl) rfl rfl ?_
  exact k
theorem BX13_laySorters_8 {d bc bs : Nat} {h : aH} {n : Nat} {Q : aQ} {r0 : Option Nat} {x1 : Int} {l2 : Option aV} (k : Rn d bc bs mX13_laySorters 10 [some (vR r0), some (vI x1), some (vI 1)] [] h n Q) : Rn d (bc) (bs) mX13_laySorters 8 [some (vR r0), some (vI x1), l2] [] h n Q := by
  refine Rn_iconst dX13_laySorters_8 rfl ?_
  refine Rn_istore_n dX13_laySorters_9 rfl (Nat.le_of_ble_eq_true rfl) rfl rfl ?_
  exact k
theorem BX13_laySorters_10 {d bc bs : Nat} {h : aH} {n : Nat} {Q : aQ} {ar0 : Nat} {x1 x2 : Int} {f1 : List aV} (h2 : h ar0 = cO 13 f1) (k : Rn d 0 0 mX13_areSorted 0 [some (vR (some ar0)), some (vI x1), some (vI x2), none, none] [] h n (fun v h1 n1 => Rn (d + 1) bc bs mX13_laySorters 16 [some (vR (some ar0)), some (vI x1), some (vI x2)] (v.toList ++ []) h1 n1 Q)) : Rn (d + 1) (bc) (bs) mX13_laySorters 10 [some (vR (some ar0)), some (vI x1), some (vI x2)] [] h n Q := by
  refine Rn_aload_n dX13_laySorters_10 rfl rfl rfl ?_
  refine Rn_iload_n dX13_laySorters_11 rfl rfl ?_
  refine Rn_iload_n dX13_laySorters_12 rfl rfl ?_
  exact Rn_callV (ci := 13) (avs := [vI x1, vI x2]) (st := []) (bc1 := 0) (bs1 := 0) (bc2 := bc) (bs2 := bs) fx_X13_areSorted dX13_laySorters_13 wd_1991 wd_1993 wd_118 rfl h2 rfl (Nat.le_of_ble_eq_true rfl) (Nat.le_of_ble_eq_true rfl) (by omega) (by omega) (ls1 := [some (vR (some ar0)), some (vI x1), some (vI x2), none, none]) rfl k
theorem BX13_laySorters_16 {d bc bs : Nat} {h : aH} {n : Nat} {Q : aQ} {r0 : Option Nat} {x1 x2 s0 : Int} (kt : s0 ≠ 0 → Rn d bc bs mX13_laySorters 25 [some (vR r0), some (vI x1), some (vI x2)] [] h n Q) (kf : s0 = 0 → Rn d bc bs mX13_laySorters 19 [some (vR r0), some (vI x1), some (vI x2)] [] h n Q) : Rn d (bc) (bs) mX13_laySorters 16 [some (vR r0), some (vI x1), some (vI x2)] [vI s0] h n Q := by
  refine Rn_ifne (tgt := 25) dX13_laySorters_16 rfl ?_ ?_
  · exact kt
  · exact kf
theorem BX13_laySorters_19 {d bc bs : Nat} {h : aH} {n : Nat} {Q : aQ} {r0 : Option Nat} {x1 x2 : Int} (b1 : -2147483648 ≤ x2 + 1 ∧ x2 + 1 < 2147483648) (k : Rn d bc bs mX13_laySorters 10 [some (vR r0), some (vI x1), some (vI (x2 + 1))] [] h n Q) : Rn d (bc) (bs) mX13_laySorters 19 [some (vR r0), some (vI x1), some (vI x2)] [] h n Q := by
  refine Rn_iinc dX13_laySorters_19 rfl (Nat.le_of_ble_eq_true rfl) rfl rfl rfl ?_
  rw [w32_id b1.1 b1.2]
  refine Rn_goto (tgt := 10) dX13_laySorters_22 rfl ?_
  exact k
theorem BX13_laySorters_25 {d bc bs : Nat} {h : aH} {n : Nat} {Q : aQ} {r0 : Option Nat} {x1 x2 : Int} (k : Q (some (vI x2)) h n) : Rn d (bc) (bs) mX13_laySorters 25 [some (vR r0), some (vI x1), some (vI x2)] [] h n Q := by
  refine Rn_iload_n dX13_laySorters_25 rfl rfl ?_
  exact Rn_ireturn rfl dX13_laySorters_26 k
theorem dX13_sorters_0 : decode cX13_sorters 0 = .ok (.iload_n 1, 1) := by decide +kernel
theorem dX13_sorters_1 : decode cX13_sorters 1 = .ok (.iconst 0, 1) := by decide +kernel
theorem dX13_sorters_2 : decode cX13_sorters 2 = .ok (.bipush 8, 2) := by decide +kernel
theorem dX13_sorters_4 : decode cX13_sorters 4 = .ok (.invokestatic 72, 3) := by decide +kernel
theorem dX13_sorters_7 : decode cX13_sorters 7 = .ok (.ifCond .eq 11, 3) := by decide +kernel
theorem dX13_sorters_10 : decode cX13_sorters 10 = .ok (.aload_n 0, 1) := by decide +kernel
theorem dX13_sorters_11 : decode cX13_sorters 11 = .ok (.iload_n 1, 1) := by decide +kernel
theorem dX13_sorters_12 : decode cX13_sorters 12 = .ok (.invokevirtual 479, 3) := by decide +kernel
theorem dX13_sorters_15 : decode cX13_sorters 15 = .ok (.goto 4, 3) := by decide +kernel
theorem dX13_sorters_18 : decode cX13_sorters 18 = .ok (.iconst (-1), 1) := by decide +kernel
theorem dX13_sorters_19 : decode cX13_sorters 19 = .ok (.ireturn, 1) := by decide +kernel
theorem BX13_sorters_0 {d bc bs : Nat} {h : aH} {n : Nat} {Q : aQ} {r0 : Option Nat} {x1 : Int} (k : Rn d 0 0 mX13_isIn 0 [some (vI x1), some (vI 0), some (vI 8)] [] h n (fun v h1 n1 => Rn (d + 1) bc bs mX13_sorters 7 [some (vR r0), some (vI x1)] (v.toList ++ []) h1 n1 Q)) : Rn (d + 1) (bc) (bs) mX13_sorters 0 [some (vR r0), some (vI x1)] [] h n Q := by
  refine Rn_iload_n dX13_sorters_0 rfl rfl ?_
  refine Rn_iconst dX13_sorters_1 rfl ?_
  refine Rn_bipush dX13_sorters_2 rfl ?_
  exact Rn_callS (avs := [vI x1, vI 0, vI 8]) (st := []) (bc1 := 0) (bs1 := 0) (bc2 := bc) (bs2 := bs) fx_X13_isIn dX13_sorters_4 (Or.inl wd_1463) wd_1464 rfl (Nat.le_of_ble_eq_true rfl) (Nat.le_of_ble_eq_true rfl) (by omega) (by omega) (ls1 := [some (vI x1), some (vI 0), some (vI 8)]) rfl k
theorem BX13_sorters_7 {d bc bs : Nat} {h : aH} {n : Nat} {Q : aQ} {r0 : Option Nat} {x1 s0 : Int} (kt : s0 = 0 → Rn d bc bs mX13_sorters 18 [some (vR r0), some (vI x1)] [] h n Q) (kf : s0 ≠ 0 → Rn d bc bs mX13_sorters 10 [some (vR r0), some (vI x1)] [] h n Q) : Rn d (bc) (bs) mX13_sorters 7 [some (vR r0), some (vI x1)] [vI s0] h n Q := by
  refine Rn_ifeq (tgt := 18) dX13_sorters_7 rfl ?_ ?_
  · exact kt
  · exact kf
theorem BX13_sorters_10 {d bc bs : Nat} {h : aH} {n : Nat} {Q : aQ} {ar0 : Nat} {x1 : Int} {f1 : List aV} (h2 : h ar0 = cO 13 f1) (k : Rn d 0 0 mX13_laySorters 0 [some (vR (some ar0)), some (vI x1), none] [] h n (fun v h1 n1 => Rn (d + 1) bc bs mX13_sorters 15 [some (vR (some ar0)), some (vI x1)] (v.toList ++ []) h1 n1 Q)) : Rn (d + 1) (bc) (bs) mX13_sorters 10 [some (vR (some ar0)), some (vI x1)] [] h n Q := by
  refine Rn_aload_n dX13_sorters_10 rfl rfl rfl ?_
  refine Rn_iload_n dX13_sorters_11 rfl rfl ?_
  exact Rn_callV (ci := 13) (avs := [vI x1]) (st := []) (bc1 := 0) (bs1 := 0) (bc2 := bc) (bs2 := bs) fx_X13_laySorters dX13_sorters_12 wd_1987 wd_1989 wd_117 rfl h2 rfl (Nat.le_of_ble_eq_true rfl) (Nat.le_of_ble_eq_true rfl) (by omega) (by omega) (ls1 := [some (vR (some ar0)), some (vI x1), none]) rfl k
theorem BX13_sorters_15 {d bc bs : Nat} {h : aH} {n : Nat} {Q : aQ} {r0 : Option Nat} {x1 s0 : Int} (k : Q (some (vI s0)) h n) : Rn d (bc) (bs) mX13_sorters 15 [some (vR r0), some (vI x1)] [vI s0] h n Q := by
  refine Rn_goto (tgt := 19) dX13_sorters_15 rfl ?_
  exact Rn_ireturn rfl dX13_sorters_19 k
theorem BX13_sorters_18 {d bc bs : Nat} {h : aH} {n : Nat} {Q : aQ} {r0 : Option Nat} {x1 : Int} (k : Q (some (vI (-1))) h n) : Rn d (bc) (bs) mX13_sorters 18 [some (vR r0), some (vI x1)] [] h n Q := by
  refine Rn_iconst dX13_sorters_18 rfl ?_
  exact Rn_ireturn rfl dX13_sorters_19 k
theorem dX13_sorter_0 : decode cX13_sorter 0 = .ok (.iload_n 1, 1) := by decide +kernel
theorem dX13_sorter_1 : decode cX13_sorter 1 = .ok (.iconst 0, 1) := by decide +kernel
theorem dX13_sorter_2 : decode cX13_sorter 2 = .ok (.bipush 8, 2) := by decide +kernel
theorem dX13_sorter_4 : decode cX13_sorter 4 = .ok (.invokestatic 72, 3) := by decide +kernel
theorem dX13_sorter_7 : decode cX13_sorter 7 = .ok (.ifCond .eq 14, 3) := by decide +kernel
theorem dX13_sorter_10 : decode cX13_sorter 10 = .ok (.iload_n 2, 1) := by decide +kernel
theorem dX13_sorter_11 : decode cX13_sorter 11 = .ok (.iconst 0, 1) := by decide +kernel
theorem dX13_sorter_12 : decode cX13_sorter 12 = .ok (.iload_n 1, 1) := by decide +kernel
theorem dX13_sorter_13 : decode cX13_sorter 13 = .ok (.iconst 1, 1) := by decide +kernel
theorem dX13_sorter_14 : decode cX13_sorter 14 = .ok (.isub, 1) := by decide +kernel
theorem dX13_sorter_15 : decode cX13_sorter 15 = .ok (.invokestatic 72, 3) := by decide +kernel
theorem dX13_sorter_18 : decode cX13_sorter 18 = .ok (.ifCond .ne 5, 3) := by decide +kernel
theorem dX13_sorter_21 : decode cX13_sorter 21 = .ok (.iconst (-1), 1) := by decide +kernel
theorem dX13_sorter_22 : decode cX13_sorter 22 = .ok (.ireturn, 1) := by decide +kernel
theorem dX13_sorter_23 : decode cX13_sorter 23 = .ok (.aload_n 0, 1) := by decide +kernel
theorem dX13_sorter_24 : decode cX13_sorter 24 = .ok (.iload_n 1, 1) := by decide +kernel
theorem dX13_sorter_25 : decode cX13_sorter 25 = .ok (.invokevirtual 479, 3) := by decide +kernel
theorem dX13_sorter_28 : decode cX13_sorter 28 = .ok (.pop, 1) := by decide +kernel
theorem dX13_sorter_29 : decode cX13_sorter 29 = .ok (.aload_n 0, 1) := by decide +kernel
theorem dX13_sorter_30 : decode cX13_sorter 30 = .ok (.getfield 62, 3) := by decide +kernel
theorem dX13_sorter_33 : decode cX13_sorter 33 = .ok (.iload_n 2, 1) := by decide +kernel
theorem dX13_sorter_34 : decode cX13_sorter 34 = .ok (.iaload, 1) := by decide +kernel
theorem dX13_sorter_35 : decode cX13_sorter 35 = .ok (.ireturn, 1) := by decide +kernel
theorem BX13_sorter_0 {d bc bs : Nat} {h : aH} {n : Nat} {Q : aQ} {r0 : Option Nat} {x1 x2 : Int} (k : Rn d 0 0 mX13_isIn 0 [some (vI x1), some (vI 0), some (vI 8)] [] h n (fun v h1 n1 => Rn (d + 1) bc bs mX13_sorter 7 [some (vR r0), some (vI x1), some (vI x2)] (v.toList ++ []) h1 n1 Q)) : Rn (d + 1) (bc) (bs) mX13_sorter 0 [some (vR r0), some (vI x1), some (vI x2)] [] h n Q := by
  refine Rn_iload_n dX13_sorter_0 rfl rfl ?_
  refine Rn_iconst dX13_sorter_1 rfl ?_
  refine Rn_bipush dX13_sorter_2 rfl ?_
  exact Rn_callS (avs := [vI x1, vI 0, vI 8]) (st := []) (bc1 := 0) (bs1 := 0) (bc2 := bc) (bs2 := bs) fx_X13_isIn dX13_sorter_4 (Or.inl wd_1463) wd_1464 rfl (Nat.le_of_ble_eq_true rfl) (Nat.le_of_ble_eq_true rfl) (by omega) (by omega) (ls1 := [some (vI x1), some (vI 0), some (vI 8)]) rfl k
theorem BX13_sorter_7 {d bc bs : Nat} {h : aH} {n : Nat} {Q : aQ} {r0 : Option Nat} {x1 x2 s0 : Int} (kt : s0 = 0 → Rn d bc bs mX13_sorter 21 [some (vR r0), some (vI x1), some (vI x2)] [] h n Q) (kf : s0 ≠ 0 → Rn d bc bs mX13_sorter 10 [some (vR r0), some (vI x1), some (vI x2)] [] h n Q) : Rn d (bc) (bs) mX13_sorter 7 [some (vR r0), some (vI x1), some (vI x2)] [vI s0] h n Q := by
  refine Rn_ifeq (tgt := 21) dX13_sorter_7 rfl ?_ ?_
  · exact kt
  · exact kf
theorem BX13_sorter_10 {d bc bs : Nat} {h : aH} {n : Nat} {Q : aQ} {r0 : Option Nat} {x1 x2 : Int} (b1 : -2147483648 ≤ x1 - 1 ∧ x1 - 1 < 2147483648) (k : Rn d 0 0 mX13_isIn 0 [some (vI x2), some (vI 0), some (vI (x1 - 1))] [] h n (fun v h1 n1 => Rn (d + 1) bc bs mX13_sorter 18 [some (vR r0), some (vI x1), some (vI x2)] (v.toList ++ []) h1 n1 Q)) : Rn (d + 1) (bc) (bs) mX13_sorter 10 [some (vR r0), some (vI x1), some (vI x2)] [] h n Q := by
  refine Rn_iload_n dX13_sorter_10 rfl rfl ?_
  refine Rn_iconst dX13_sorter_11 rfl ?_
  refine Rn_iload_n dX13_sorter_12 rfl rfl ?_
  refine Rn_iconst dX13_sorter_13 rfl ?_
  refine Rn_isub dX13_sorter_14 ?_
  rw [w32_id b1.1 b1.2]
  exact Rn_callS (avs := [vI x2, vI 0, vI (x1 - 1)]) (st := []) (bc1 := 0) (bs1 := 0) (bc2 := bc) (bs2 := bs) fx_X13_isIn dX13_sorter_15 (Or.inl wd_1463) wd_1464 rfl (Nat.le_of_ble_eq_true rfl) (Nat.le_of_ble_eq_true rfl) (by omega) (by omega) (ls1 := [some (vI x2), some (vI 0), some (vI (x1 - 1))]) rfl k
theorem BX13_sorter_18 {d bc bs : Nat} {h : aH} {n : Nat} {Q : aQ} {r0 : Option Nat} {x1 x2 s0 : Int} (kt : s0 ≠ 0 → Rn d bc bs mX13_sorter 23 [some (vR r0), some (vI x1), some (vI x2)] [] h n Q) (kf : s0 = 0 → Rn d bc bs mX13_sorter 21 [some (vR r0), some (vI x1), some (vI x2)] [] h n Q) : Rn d (bc) (bs) mX13_sorter 18 [some (vR r0), some (vI x1), some (vI x2)] [vI s0] h n Q := by
  refine Rn_ifne (tgt := 23) dX13_sorter_18 rfl ?_ ?_
  · exact kt
  · exact kf
theorem BX13_sorter_21 {d bc bs : Nat} {h : aH} {n : Nat} {Q : aQ} {r0 : Option Nat} {x1 x2 : Int} (k : Q (some (vI (-1))) h n) : Rn d (bc) (bs) mX13_sorter 21 [some (vR r0), some (vI x1), some (vI x2)] [] h n Q := by
  refine Rn_iconst dX13_sorter_21 rfl ?_
  exact Rn_ireturn rfl dX13_sorter_22 k
theorem BX13_sorter_23 {d bc bs : Nat} {h : aH} {n : Nat} {Q : aQ} {ar0 : Nat} {x1 x2 : Int} {f1 : List aV} (h2 : h ar0 = cO 13 f1) (k : Rn d 0 0 mX13_laySorters 0 [some (vR (some ar0)), some (vI x1), none] [] h n (fun v h1 n1 => Rn (d + 1) bc bs mX13_sorter 28 [some (vR (some ar0)), some (vI x1), some (vI x2)] (v.toList ++ []) h1 n1 Q)) : Rn (d + 1) (bc) (bs) mX13_sorter 23 [some (vR (some ar0)), some (vI x1), some (vI x2)] [] h n Q := by
  refine Rn_aload_n dX13_sorter_23 rfl rfl rfl ?_
  refine Rn_iload_n dX13_sorter_24 rfl rfl ?_
  exact Rn_callV (ci := 13) (avs := [vI x1]) (st := []) (bc1 := 0) (bs1 := 0) (bc2 := bc) (bs2 := bs) fx_X13_laySorters dX13_sorter_25 wd_1987 wd_1989 wd_117 rfl h2 rfl (Nat.le_of_ble_eq_true rfl) (Nat.le_of_ble_eq_true rfl) (by omega) (by omega) (ls1 := [some (vR (some ar0)), some (vI x1), none]) rfl k
theorem BX13_sorter_28 {d bc bs : Nat} {h : aH} {n : Nat} {Q : aQ} {ar0 at3 : Nat} {x1 x2 s0 v7 : Int} {f1 : List aV} {w5 : List Int} (h2 : h ar0 = cO 13 f1) (g4 : f1[32]? = some (vR (some at3))) (h6 : h at3 = cI w5) (i8 : 0 ≤ x2) (g9 : w5[(x2 : Int).toNat]? = some v7) (k : Q (some (vI v7)) h n) : Rn d (bc) (bs) mX13_sorter 28 [some (vR (some ar0)), some (vI x1), some (vI x2)] [vI s0] h n Q := by
  refine Rn_pop dX13_sorter_28 rfl ?_
  refine Rn_aload_n dX13_sorter_29 rfl rfl rfl ?_
  refine Rn_getfield (ci := 13) (k := 32) dX13_sorter_30 rfl in_13 (Nat.le_of_ble_eq_true rfl) wd_1384 rfl h2 g4 ?_
  refine Rn_iload_n dX13_sorter_33 rfl rfl ?_
  refine Rn_iaload dX13_sorter_34 h6 i8 g9 ?_
  exact Rn_ireturn rfl dX13_sorter_35 k
theorem dX13_writes_0 : decode cX13_writes 0 = .ok (.iload_n 1, 1) := by decide +kernel
theorem dX13_writes_1 : decode cX13_writes 1 = .ok (.invokestatic 470, 3) := by decide +kernel
theorem dX13_writes_4 : decode cX13_writes 4 = .ok (.ifCond .eq 32, 3) := by decide +kernel
theorem dX13_writes_7 : decode cX13_writes 7 = .ok (.iload_n 2, 1) := by decide +kernel
theorem dX13_writes_8 : decode cX13_writes 8 = .ok (.invokestatic 470, 3) := by decide +kernel
theorem dX13_writes_11 : decode cX13_writes 11 = .ok (.ifCond .eq 25, 3) := by decide +kernel
theorem dX13_writes_14 : decode cX13_writes 14 = .ok (.iload_n 1, 1) := by decide +kernel
theorem dX13_writes_15 : decode cX13_writes 15 = .ok (.iload_n 2, 1) := by decide +kernel
theorem dX13_writes_16 : decode cX13_writes 16 = .ok (.if_icmp .eq 20, 3) := by decide +kernel
theorem dX13_writes_19 : decode cX13_writes 19 = .ok (.aload_n 0, 1) := by decide +kernel
theorem dX13_writes_20 : decode cX13_writes 20 = .ok (.getfield 7, 3) := by decide +kernel
theorem dX13_writes_23 : decode cX13_writes 23 = .ok (.sipush 155, 3) := by decide +kernel
theorem dX13_writes_26 : decode cX13_writes 26 = .ok (.iload_n 2, 1) := by decide +kernel
theorem dX13_writes_27 : decode cX13_writes 27 = .ok (.iadd, 1) := by decide +kernel
theorem dX13_writes_28 : decode cX13_writes 28 = .ok (.iaload, 1) := by decide +kernel
theorem dX13_writes_29 : decode cX13_writes 29 = .ok (.iload_n 1, 1) := by decide +kernel
theorem dX13_writes_30 : decode cX13_writes 30 = .ok (.invokestatic 246, 3) := by decide +kernel
theorem dX13_writes_33 : decode cX13_writes 33 = .ok (.ifCond .eq 5, 3) := by decide +kernel
theorem dX13_writes_36 : decode cX13_writes 36 = .ok (.iconst 0, 1) := by decide +kernel
theorem dX13_writes_37 : decode cX13_writes 37 = .ok (.ireturn, 1) := by decide +kernel
theorem dX13_writes_38 : decode cX13_writes 38 = .ok (.aload_n 0, 1) := by decide +kernel
theorem dX13_writes_39 : decode cX13_writes 39 = .ok (.getfield 7, 3) := by decide +kernel
theorem dX13_writes_42 : decode cX13_writes 42 = .ok (.sipush 155, 3) := by decide +kernel
theorem dX13_writes_45 : decode cX13_writes 45 = .ok (.iload_n 2, 1) := by decide +kernel
theorem dX13_writes_46 : decode cX13_writes 46 = .ok (.iadd, 1) := by decide +kernel
theorem dX13_writes_47 : decode cX13_writes 47 = .ok (.dup2, 1) := by decide +kernel
theorem dX13_writes_48 : decode cX13_writes 48 = .ok (.iaload, 1) := by decide +kernel
theorem dX13_writes_49 : decode cX13_writes 49 = .ok (.iconst 1, 1) := by decide +kernel
theorem dX13_writes_50 : decode cX13_writes 50 = .ok (.iload_n 1, 1) := by decide +kernel
theorem dX13_writes_51 : decode cX13_writes 51 = .ok (.ishl, 1) := by decide +kernel
theorem dX13_writes_52 : decode cX13_writes 52 = .ok (.ior, 1) := by decide +kernel
theorem dX13_writes_53 : decode cX13_writes 53 = .ok (.iastore, 1) := by decide +kernel
theorem dX13_writes_54 : decode cX13_writes 54 = .ok (.iconst 1, 1) := by decide +kernel
theorem dX13_writes_55 : decode cX13_writes 55 = .ok (.ireturn, 1) := by decide +kernel
theorem BX13_writes_0 {d bc bs : Nat} {h : aH} {n : Nat} {Q : aQ} {r0 : Option Nat} {x1 x2 : Int} (k : Rn d 0 0 mX13_isLetter 0 [some (vI x1)] [] h n (fun v h1 n1 => Rn (d + 1) bc bs mX13_writes 4 [some (vR r0), some (vI x1), some (vI x2)] (v.toList ++ []) h1 n1 Q)) : Rn (d + 1) (bc) (bs) mX13_writes 0 [some (vR r0), some (vI x1), some (vI x2)] [] h n Q := by
  refine Rn_iload_n dX13_writes_0 rfl rfl ?_
  exact Rn_callS (avs := [vI x1]) (st := []) (bc1 := 0) (bs1 := 0) (bc2 := bc) (bs2 := bs) fx_X13_isLetter dX13_writes_1 (Or.inl wd_1980) wd_1981 rfl (Nat.le_of_ble_eq_true rfl) (Nat.le_of_ble_eq_true rfl) (by omega) (by omega) (ls1 := [some (vI x1)]) rfl k
theorem BX13_writes_4 {d bc bs : Nat} {h : aH} {n : Nat} {Q : aQ} {r0 : Option Nat} {x1 x2 s0 : Int} (kt : s0 = 0 → Rn d bc bs mX13_writes 36 [some (vR r0), some (vI x1), some (vI x2)] [] h n Q) (kf : s0 ≠ 0 → Rn d bc bs mX13_writes 7 [some (vR r0), some (vI x1), some (vI x2)] [] h n Q) : Rn d (bc) (bs) mX13_writes 4 [some (vR r0), some (vI x1), some (vI x2)] [vI s0] h n Q := by
  refine Rn_ifeq (tgt := 36) dX13_writes_4 rfl ?_ ?_
  · exact kt
  · exact kf
theorem BX13_writes_7 {d bc bs : Nat} {h : aH} {n : Nat} {Q : aQ} {r0 : Option Nat} {x1 x2 : Int} (k : Rn d 0 0 mX13_isLetter 0 [some (vI x2)] [] h n (fun v h1 n1 => Rn (d + 1) bc bs mX13_writes 11 [some (vR r0), some (vI x1), some (vI x2)] (v.toList ++ []) h1 n1 Q)) : Rn (d + 1) (bc) (bs) mX13_writes 7 [some (vR r0), some (vI x1), some (vI x2)] [] h n Q := by
  refine Rn_iload_n dX13_writes_7 rfl rfl ?_
  exact Rn_callS (avs := [vI x2]) (st := []) (bc1 := 0) (bs1 := 0) (bc2 := bc) (bs2 := bs) fx_X13_isLetter dX13_writes_8 (Or.inl wd_1980) wd_1981 rfl (Nat.le_of_ble_eq_true rfl) (Nat.le_of_ble_eq_true rfl) (by omega) (by omega) (ls1 := [some (vI x2)]) rfl k
theorem BX13_writes_11 {d bc bs : Nat} {h : aH} {n : Nat} {Q : aQ} {r0 : Option Nat} {x1 x2 s0 : Int} (kt : s0 = 0 → Rn d bc bs mX13_writes 36 [some (vR r0), some (vI x1), some (vI x2)] [] h n Q) (kf : s0 ≠ 0 → Rn d bc bs mX13_writes 14 [some (vR r0), some (vI x1), some (vI x2)] [] h n Q) : Rn d (bc) (bs) mX13_writes 11 [some (vR r0), some (vI x1), some (vI x2)] [vI s0] h n Q := by
  refine Rn_ifeq (tgt := 36) dX13_writes_11 rfl ?_ ?_
  · exact kt
  · exact kf
theorem BX13_writes_14 {d bc bs : Nat} {h : aH} {n : Nat} {Q : aQ} {r0 : Option Nat} {x1 x2 : Int} (kt : x1 = x2 → Rn d bc bs mX13_writes 36 [some (vR r0), some (vI x1), some (vI x2)] [] h n Q) (kf : x1 ≠ x2 → Rn d bc bs mX13_writes 19 [some (vR r0), some (vI x1), some (vI x2)] [] h n Q) : Rn d (bc) (bs) mX13_writes 14 [some (vR r0), some (vI x1), some (vI x2)] [] h n Q := by
  refine Rn_iload_n dX13_writes_14 rfl rfl ?_
  refine Rn_iload_n dX13_writes_15 rfl rfl ?_
  refine Rn_icmpeq (tgt := 36) dX13_writes_16 rfl ?_ ?_
  · exact kt
  · exact kf
theorem BX13_writes_19 {d bc bs : Nat} {h : aH} {n : Nat} {Q : aQ} {ar0 at3 : Nat} {x1 x2 v8 : Int} {f1 : List aV} {w6 : List Int} (h2 : h ar0 = cO 13 f1) (g4 : f1[0]? = some (vR (some at3))) (b5 : -2147483648 ≤ 155 + x2 ∧ 155 + x2 < 2147483648) (h7 : h at3 = cI w6) (i9 : 0 ≤ 155 + x2) (g10 : w6[(155 + x2 : Int).toNat]? = some v8) (k : Rn d 0 0 mX13_has 0 [some (vI v8), some (vI x1)] [] h n (fun v h1 n1 => Rn (d + 1) bc bs mX13_writes 33 [some (vR (some ar0)), some (vI x1), some (vI x2)] (v.toList ++ []) h1 n1 Q)) : Rn (d + 1) (bc) (bs) mX13_writes 19 [some (vR (some ar0)), some (vI x1), some (vI x2)] [] h n Q := by
  refine Rn_aload_n dX13_writes_19 rfl rfl rfl ?_
  refine Rn_getfield (ci := 13) (k := 0) dX13_writes_20 rfl in_13 (Nat.le_of_ble_eq_true rfl) wd_1352 rfl h2 g4 ?_
  refine Rn_sipush dX13_writes_23 rfl ?_
  refine Rn_iload_n dX13_writes_26 rfl rfl ?_
  refine Rn_iadd dX13_writes_27 ?_
  rw [w32_id b5.1 b5.2]
  refine Rn_iaload dX13_writes_28 h7 i9 g10 ?_
  refine Rn_iload_n dX13_writes_29 rfl rfl ?_
  exact Rn_callS (avs := [vI v8, vI x1]) (st := []) (bc1 := 0) (bs1 := 0) (bc2 := bc) (bs2 := bs) fx_X13_has dX13_writes_30 (Or.inl wd_1540) wd_1541 rfl (Nat.le_of_ble_eq_true rfl) (Nat.le_of_ble_eq_true rfl) (by omega) (by omega) (ls1 := [some (vI v8), some (vI x1)]) rfl k
theorem BX13_writes_33 {d bc bs : Nat} {h : aH} {n : Nat} {Q : aQ} {r0 : Option Nat} {x1 x2 s0 : Int} (kt : s0 = 0 → Rn d bc bs mX13_writes 38 [some (vR r0), some (vI x1), some (vI x2)] [] h n Q) (kf : s0 ≠ 0 → Rn d bc bs mX13_writes 36 [some (vR r0), some (vI x1), some (vI x2)] [] h n Q) : Rn d (bc) (bs) mX13_writes 33 [some (vR r0), some (vI x1), some (vI x2)] [vI s0] h n Q := by
  refine Rn_ifeq (tgt := 38) dX13_writes_33 rfl ?_ ?_
  · exact kt
  · exact kf
theorem BX13_writes_36 {d bc bs : Nat} {h : aH} {n : Nat} {Q : aQ} {r0 : Option Nat} {x1 x2 : Int} (k : Q (some (vI 0)) h n) : Rn d (bc) (bs) mX13_writes 36 [some (vR r0), some (vI x1), some (vI x2)] [] h n Q := by
  refine Rn_iconst dX13_writes_36 rfl ?_
  exact Rn_zreturn rfl dX13_writes_37 (by decide) k
theorem BX13_writes_38 {d bc bs : Nat} {h : aH} {n : Nat} {Q : aQ} {ar0 at3 : Nat} {x1 x2 v8 : Int} {f1 : List aV} {w6 : List Int} (h2 : h ar0 = cO 13 f1) (g4 : f1[0]? = some (vR (some at3))) (b5 : -2147483648 ≤ 155 + x2 ∧ 155 + x2 < 2147483648) (h7 : h at3 = cI w6) (i9 : 0 ≤ 155 + x2) (g10 : w6[(155 + x2 : Int).toNat]? = some v8) (j11 : 155 + x2 < w6.length) (z12 : at3 ≠ 0) (k : Rn d bc bs mX13_writes 54 [some (vR (some ar0)), some (vI x1), some (vI x2)] [] (up h at3 (cI (w6.set (155 + x2 : Int).toNat (or32 v8 (shl32 1 x1))))) n Q) : Rn d (bc) (bs) mX13_writes 38 [some (vR (some ar0)), some (vI x1), some (vI x2)] [] h n Q := by
  refine Rn_aload_n dX13_writes_38 rfl rfl rfl ?_
  refine Rn_getfield (ci := 13) (k := 0) dX13_writes_39 rfl in_13 (Nat.le_of_ble_eq_true rfl) wd_1352 rfl h2 g4 ?_
  refine Rn_sipush dX13_writes_42 rfl ?_
  refine Rn_iload_n dX13_writes_45 rfl rfl ?_
  refine Rn_iadd dX13_writes_46 ?_
  rw [w32_id b5.1 b5.2]
  refine Rn_dup2 dX13_writes_47 rfl rfl ?_
  refine Rn_iaload dX13_writes_48 h7 i9 g10 ?_
  refine Rn_iconst dX13_writes_49 rfl ?_
  refine Rn_iload_n dX13_writes_50 rfl rfl ?_
  refine Rn_ishl dX13_writes_51 ?_
  refine Rn_ior dX13_writes_52 ?_
  refine Rn_iastore dX13_writes_53 z12 h7 i9 j11 ?_
  exact k
theorem BX13_writes_54 {d bc bs : Nat} {h : aH} {n : Nat} {Q : aQ} {r0 : Option Nat} {x1 x2 : Int} (k : Q (some (vI 1)) h n) : Rn d (bc) (bs) mX13_writes 54 [some (vR r0), some (vI x1), some (vI x2)] [] h n Q := by
  refine Rn_iconst dX13_writes_54 rfl ?_
  exact Rn_zreturn rfl dX13_writes_55 (by decide) k
theorem dX13_countOrders_0 : decode cX13_countOrders 0 = .ok (.iconst 1, 1) := by decide +kernel
theorem dX13_countOrders_1 : decode cX13_countOrders 1 = .ok (.iload_n 1, 1) := by decide +kernel
theorem dX13_countOrders_2 : decode cX13_countOrders 2 = .ok (.ishl, 1) := by decide +kernel
theorem dX13_countOrders_3 : decode cX13_countOrders 3 = .ok (.iconst 1, 1) := by decide +kernel
theorem dX13_countOrders_4 : decode cX13_countOrders 4 = .ok (.isub, 1) := by decide +kernel
theorem dX13_countOrders_5 : decode cX13_countOrders 5 = .ok (.istore 4, 2) := by decide +kernel
theorem dX13_countOrders_7 : decode cX13_countOrders 7 = .ok (.aload_n 0, 1) := by decide +kernel
theorem dX13_countOrders_8 : decode cX13_countOrders 8 = .ok (.getfield 65, 3) := by decide +kernel
theorem dX13_countOrders_11 : decode cX13_countOrders 11 = .ok (.iload 4, 2) := by decide +kernel
theorem dX13_countOrders_13 : decode cX13_countOrders 13 = .ok (.lconst 1, 1) := by decide +kernel
theorem dX13_countOrders_14 : decode cX13_countOrders 14 = .ok (.lastore, 1) := by decide +kernel
theorem dX13_countOrders_15 : decode cX13_countOrders 15 = .ok (.iload 4, 2) := by decide +kernel
theorem dX13_countOrders_17 : decode cX13_countOrders 17 = .ok (.iconst 1, 1) := by decide +kernel
theorem dX13_countOrders_18 : decode cX13_countOrders 18 = .ok (.isub, 1) := by decide +kernel
theorem dX13_countOrders_19 : decode cX13_countOrders 19 = .ok (.istore 5, 2) := by decide +kernel
theorem dX13_countOrders_21 : decode cX13_countOrders 21 = .ok (.iload 5, 2) := by decide +kernel
theorem dX13_countOrders_23 : decode cX13_countOrders 23 = .ok (.ifCond .lt 109, 3) := by decide +kernel
theorem dX13_countOrders_26 : decode cX13_countOrders 26 = .ok (.aload_n 0, 1) := by decide +kernel
theorem dX13_countOrders_27 : decode cX13_countOrders 27 = .ok (.getfield 65, 3) := by decide +kernel
theorem dX13_countOrders_30 : decode cX13_countOrders 30 = .ok (.iload 5, 2) := by decide +kernel
theorem dX13_countOrders_32 : decode cX13_countOrders 32 = .ok (.lconst 0, 1) := by decide +kernel
theorem dX13_countOrders_33 : decode cX13_countOrders 33 = .ok (.lastore, 1) := by decide +kernel
theorem dX13_countOrders_34 : decode cX13_countOrders 34 = .ok (.iconst 0, 1) := by decide +kernel
theorem dX13_countOrders_35 : decode cX13_countOrders 35 = .ok (.istore 6, 2) := by decide +kernel
theorem dX13_countOrders_37 : decode cX13_countOrders 37 = .ok (.iload 6, 2) := by decide +kernel
theorem dX13_countOrders_39 : decode cX13_countOrders 39 = .ok (.iload_n 1, 1) := by decide +kernel
theorem dX13_countOrders_40 : decode cX13_countOrders 40 = .ok (.if_icmp .ge 86, 3) := by decide +kernel
theorem dX13_countOrders_43 : decode cX13_countOrders 43 = .ok (.aload_n 0, 1) := by decide +kernel
theorem dX13_countOrders_44 : decode cX13_countOrders 44 = .ok (.getfield 7, 3) := by decide +kernel
theorem dX13_countOrders_47 : decode cX13_countOrders 47 = .ok (.sipush 155, 3) := by decide +kernel
theorem dX13_countOrders_50 : decode cX13_countOrders 50 = .ok (.iload 6, 2) := by decide +kernel
theorem dX13_countOrders_52 : decode cX13_countOrders 52 = .ok (.iadd, 1) := by decide +kernel
theorem dX13_countOrders_53 : decode cX13_countOrders 53 = .ok (.iaload, 1) := by decide +kernel
theorem dX13_countOrders_54 : decode cX13_countOrders 54 = .ok (.iload 6, 2) := by decide +kernel
theorem dX13_countOrders_56 : decode cX13_countOrders 56 = .ok (.iload_n 3, 1) := by decide +kernel
theorem dX13_countOrders_57 : decode cX13_countOrders 57 = .ok (.if_icmp .ne 14, 3) := by decide +kernel
theorem dX13_countOrders_60 : decode cX13_countOrders 60 = .ok (.iload_n 2, 1) := by decide +kernel
theorem dX13_countOrders_61 : decode cX13_countOrders 61 = .ok (.iconst (-1), 1) := by decide +kernel
theorem dX13_countOrders_62 : decode cX13_countOrders 62 = .ok (.if_icmp .eq 9, 3) := by decide +kernel
theorem dX13_countOrders_65 : decode cX13_countOrders 65 = .ok (.iconst 1, 1) := by decide +kernel
theorem dX13_countOrders_66 : decode cX13_countOrders 66 = .ok (.iload_n 2, 1) := by decide +kernel
theorem dX13_countOrders_67 : decode cX13_countOrders 67 = .ok (.ishl, 1) := by decide +kernel
theorem dX13_countOrders_68 : decode cX13_countOrders 68 = .ok (.goto 4, 3) := by decide +kernel
theorem dX13_countOrders_71 : decode cX13_countOrders 71 = .ok (.iconst 0, 1) := by decide +kernel
theorem dX13_countOrders_72 : decode cX13_countOrders 72 = .ok (.ior, 1) := by decide +kernel
theorem dX13_countOrders_73 : decode cX13_countOrders 73 = .ok (.iload 4, 2) := by decide +kernel
theorem dX13_countOrders_75 : decode cX13_countOrders 75 = .ok (.iand, 1) := by decide +kernel
theorem dX13_countOrders_76 : decode cX13_countOrders 76 = .ok (.istore 7, 2) := by decide +kernel
theorem dX13_countOrders_78 : decode cX13_countOrders 78 = .ok (.iload 5, 2) := by decide +kernel
theorem dX13_countOrders_80 : decode cX13_countOrders 80 = .ok (.iload 6, 2) := by decide +kernel
theorem dX13_countOrders_82 : decode cX13_countOrders 82 = .ok (.invokestatic 246, 3) := by decide +kernel
theorem dX13_countOrders_85 : decode cX13_countOrders 85 = .ok (.ifCond .ne 35, 3) := by decide +kernel
theorem dX13_countOrders_88 : decode cX13_countOrders 88 = .ok (.iload 7, 2) := by decide +kernel
theorem dX13_countOrders_90 : decode cX13_countOrders 90 = .ok (.iload 5, 2) := by decide +kernel
theorem dX13_countOrders_92 : decode cX13_countOrders 92 = .ok (.iconst (-1), 1) := by decide +kernel
theorem dX13_countOrders_93 : decode cX13_countOrders 93 = .ok (.ixor, 1) := by decide +kernel
theorem dX13_countOrders_94 : decode cX13_countOrders 94 = .ok (.iand, 1) := by decide +kernel
theorem dX13_countOrders_95 : decode cX13_countOrders 95 = .ok (.ifCond .ne 25, 3) := by decide +kernel
theorem dX13_countOrders_98 : decode cX13_countOrders 98 = .ok (.aload_n 0, 1) := by decide +kernel
theorem dX13_countOrders_99 : decode cX13_countOrders 99 = .ok (.getfield 65, 3) := by decide +kernel
theorem dX13_countOrders_102 : decode cX13_countOrders 102 = .ok (.iload 5, 2) := by decide +kernel
theorem dX13_countOrders_104 : decode cX13_countOrders 104 = .ok (.dup2, 1) := by decide +kernel
theorem dX13_countOrders_105 : decode cX13_countOrders 105 = .ok (.laload, 1) := by decide +kernel
theorem dX13_countOrders_106 : decode cX13_countOrders 106 = .ok (.aload_n 0, 1) := by decide +kernel
theorem dX13_countOrders_107 : decode cX13_countOrders 107 = .ok (.getfield 65, 3) := by decide +kernel
theorem dX13_countOrders_110 : decode cX13_countOrders 110 = .ok (.iload 5, 2) := by decide +kernel
theorem dX13_countOrders_112 : decode cX13_countOrders 112 = .ok (.iconst 1, 1) := by decide +kernel
theorem dX13_countOrders_113 : decode cX13_countOrders 113 = .ok (.iload 6, 2) := by decide +kernel
theorem dX13_countOrders_115 : decode cX13_countOrders 115 = .ok (.ishl, 1) := by decide +kernel
theorem dX13_countOrders_116 : decode cX13_countOrders 116 = .ok (.ior, 1) := by decide +kernel
theorem dX13_countOrders_117 : decode cX13_countOrders 117 = .ok (.laload, 1) := by decide +kernel
theorem dX13_countOrders_118 : decode cX13_countOrders 118 = .ok (.ladd, 1) := by decide +kernel
theorem dX13_countOrders_119 : decode cX13_countOrders 119 = .ok (.lastore, 1) := by decide +kernel
theorem dX13_countOrders_120 : decode cX13_countOrders 120 = .ok (.iinc 6 1, 3) := by decide +kernel
theorem dX13_countOrders_123 : decode cX13_countOrders 123 = .ok (.goto (-86), 3) := by decide +kernel
theorem dX13_countOrders_126 : decode cX13_countOrders 126 = .ok (.iinc 5 (-1), 3) := by decide +kernel
theorem dX13_countOrders_129 : decode cX13_countOrders 129 = .ok (.goto (-108), 3) := by decide +kernel
theorem dX13_countOrders_132 : decode cX13_countOrders 132 = .ok (.aload_n 0, 1) := by decide +kernel
theorem dX13_countOrders_133 : decode cX13_countOrders 133 = .ok (.getfield 65, 3) := by decide +kernel
theorem dX13_countOrders_136 : decode cX13_countOrders 136 = .ok (.iconst 0, 1) := by decide +kernel
theorem dX13_countOrders_137 : decode cX13_countOrders 137 = .ok (.laload, 1) := by decide +kernel
theorem dX13_countOrders_138 : decode cX13_countOrders 138 = .ok (.lreturn, 1) := by decide +kernel
theorem BX13_countOrders_0 {d bc bs : Nat} {h : aH} {n : Nat} {Q : aQ} {ar0 at4 : Nat} {x1 x2 x3 : Int} {l4 l5 l6 l7 : Option aV} {f2 : List aV} {w6 : List Int} (b1 : -2147483648 ≤ (shl32 1 x1) - 1 ∧ (shl32 1 x1) - 1 < 2147483648) (h3 : h ar0 = cO 13 f2) (g5 : f2[33]? = some (vR (some at4))) (h7 : h at4 = cJ w6) (i8 : 0 ≤ (shl32 1 x1) - 1) (j9 : (shl32 1 x1) - 1 < w6.length) (z10 : at4 ≠ 0) (k : Rn d bc bs mX13_countOrders 15 [some (vR (some ar0)), some (vI x1), some (vI x2), some (vI x3), some (vI ((shl32 1 x1) - 1)), l5, l6, l7] [] (up h at4 (cJ (w6.set ((shl32 1 x1) - 1 : Int).toNat 1))) n Q) : Rn d (bc) (bs) mX13_countOrders 0 [some (vR (some ar0)), some (vI x1), some (vI x2), some (vI x3), l4, l5, l6, l7] [] h n Q := by
  refine Rn_iconst dX13_countOrders_0 rfl ?_
  refine Rn_iload_n dX13_countOrders_1 rfl rfl ?_
  refine Rn_ishl dX13_countOrders_2 ?_
  refine Rn_iconst dX13_countOrders_3 rfl ?_
  refine Rn_isub dX13_countOrders_4 ?_
  rw [w32_id b1.1 b1.2]
  refine Rn_istore dX13_countOrders_5 (Nat.le_of_ble_eq_true rfl) rfl rfl ?_
  refine Rn_aload_n dX13_countOrders_7 rfl rfl rfl ?_
  refine Rn_getfield (ci := 13) (k := 33) dX13_countOrders_8 rfl in_13 (Nat.le_of_ble_eq_true rfl) wd_1385 rfl h3 g5 ?_
  refine Rn_iload dX13_countOrders_11 rfl ?_
  refine Rn_lconst (x := 1) dX13_countOrders_13 rfl ?_
  refine Rn_lastore dX13_countOrders_14 z10 h7 i8 j9 ?_
  exact k
theorem BX13_countOrders_15 {d bc bs : Nat} {h : aH} {n : Nat} {Q : aQ} {r0 : Option Nat} {x1 x2 x3 x4 : Int} {l5 l6 l7 : Option aV} (b1 : -2147483648 ≤ x4 - 1 ∧ x4 - 1 < 2147483648) (k : Rn d bc bs mX13_countOrders 21 [some (vR r0), some (vI x1), some (vI x2), some (vI x3), some (vI x4), some (vI (x4 - 1)), l6, l7] [] h n Q) : Rn d (bc) (bs) mX13_countOrders 15 [some (vR r0), some (vI x1), some (vI x2), some (vI x3), some (vI x4), l5, l6, l7] [] h n Q := by
  refine Rn_iload dX13_countOrders_15 rfl ?_
  refine Rn_iconst dX13_countOrders_17 rfl ?_
  refine Rn_isub dX13_countOrders_18 ?_
  rw [w32_id b1.1 b1.2]
  refine Rn_istore dX13_countOrders_19 (Nat.le_of_ble_eq_true rfl) rfl rfl ?_
  exact k
theorem BX13_countOrders_21 {d bc bs : Nat} {h : aH} {n : Nat} {Q : aQ} {r0 : Option Nat} {x1 x2 x3 x4 x5 : Int} {l6 l7 : Option aV} (kt : x5 < 0 → Rn d bc bs mX13_countOrders 132 [some (vR r0), some (vI x1), some (vI x2), some (vI x3), some (vI x4), some (vI x5), l6, l7] [] h n Q) (kf : 0 ≤ x5 → Rn d bc bs mX13_countOrders 26 [some (vR r0), some (vI x1), some (vI x2), some (vI x3), some (vI x4), some (vI x5), l6, l7] [] h n Q) : Rn d (bc) (bs) mX13_countOrders 21 [some (vR r0), some (vI x1), some (vI x2), some (vI x3), some (vI x4), some (vI x5), l6, l7] [] h n Q := by
  refine Rn_iload dX13_countOrders_21 rfl ?_
  refine Rn_iflt (tgt := 132) dX13_countOrders_23 rfl ?_ ?_
  · exact kt
  · exact kf
theorem BX13_countOrders_26 {d bc bs : Nat} {h : aH} {n : Nat} {Q : aQ} {ar0 at3 : Nat} {x1 x2 x3 x4 x5 : Int} {l6 l7 : Option aV} {f1 : List aV} {w5 : List Int} (h2 : h ar0 = cO 13 f1) (g4 : f1[33]? = some (vR (some at3))) (h6 : h at3 = cJ w5) (i7 : 0 ≤ x5) (j8 : x5 < w5.length) (z9 : at3 ≠ 0) (k : Rn d bc bs mX13_countOrders 34 [some (vR (some ar0)), some (vI x1), some (vI x2), some (vI x3), some (vI x4), some (vI x5), l6, l7] [] (up h at3 (cJ (w5.set (x5 : Int).toNat 0))) n Q) : Rn d (bc) (bs) mX13_countOrders 26 [some (vR (some ar0)), some (vI x1), some (vI x2), some (vI x3), some (vI x4), some (vI x5), l6, l7] [] h n Q := by
  refine Rn_aload_n dX13_countOrders_26 rfl rfl rfl ?_
  refine Rn_getfield (ci := 13) (k := 33) dX13_countOrders_27 rfl in_13 (Nat.le_of_ble_eq_true rfl) wd_1385 rfl h2 g4 ?_
  refine Rn_iload dX13_countOrders_30 rfl ?_
  refine Rn_lconst (x := 0) dX13_countOrders_32 rfl ?_
  refine Rn_lastore dX13_countOrders_33 z9 h6 i7 j8 ?_
  exact k
theorem BX13_countOrders_34 {d bc bs : Nat} {h : aH} {n : Nat} {Q : aQ} {r0 : Option Nat} {x1 x2 x3 x4 x5 : Int} {l6 l7 : Option aV} (k : Rn d bc bs mX13_countOrders 37 [some (vR r0), some (vI x1), some (vI x2), some (vI x3), some (vI x4), some (vI x5), some (vI 0), l7] [] h n Q) : Rn d (bc) (bs) mX13_countOrders 34 [some (vR r0), some (vI x1), some (vI x2), some (vI x3), some (vI x4), some (vI x5), l6, l7] [] h n Q := by
  refine Rn_iconst dX13_countOrders_34 rfl ?_
  refine Rn_istore dX13_countOrders_35 (Nat.le_of_ble_eq_true rfl) rfl rfl ?_
  exact k
theorem BX13_countOrders_37 {d bc bs : Nat} {h : aH} {n : Nat} {Q : aQ} {r0 : Option Nat} {x1 x2 x3 x4 x5 x6 : Int} {l7 : Option aV} (kt : x1 ≤ x6 → Rn d bc bs mX13_countOrders 126 [some (vR r0), some (vI x1), some (vI x2), some (vI x3), some (vI x4), some (vI x5), some (vI x6), l7] [] h n Q) (kf : x6 < x1 → Rn d bc bs mX13_countOrders 43 [some (vR r0), some (vI x1), some (vI x2), some (vI x3), some (vI x4), some (vI x5), some (vI x6), l7] [] h n Q) : Rn d (bc) (bs) mX13_countOrders 37 [some (vR r0), some (vI x1), some (vI x2), some (vI x3), some (vI x4), some (vI x5), some (vI x6), l7] [] h n Q := by
  refine Rn_iload dX13_countOrders_37 rfl ?_
  refine Rn_iload_n dX13_countOrders_39 rfl rfl ?_
  refine Rn_icmpge (tgt := 126) dX13_countOrders_40 rfl ?_ ?_
  · exact kt
  · exact kf
theorem BX13_countOrders_43 {d bc bs : Nat} {h : aH} {n : Nat} {Q : aQ} {ar0 at3 : Nat} {x1 x2 x3 x4 x5 x6 v8 : Int} {l7 : Option aV} {f1 : List aV} {w6 : List Int} (h2 : h ar0 = cO 13 f1) (g4 : f1[0]? = some (vR (some at3))) (b5 : -2147483648 ≤ 155 + x6 ∧ 155 + x6 < 2147483648) (h7 : h at3 = cI w6) (i9 : 0 ≤ 155 + x6) (g10 : w6[(155 + x6 : Int).toNat]? = some v8) (kt : x6 ≠ x3 → Rn d bc bs mX13_countOrders 71 [some (vR (some ar0)), some (vI x1), some (vI x2), some (vI x3), some (vI x4), some (vI x5), some (vI x6), l7] [vI v8] h n Q) (kf : x6 = x3 → Rn d bc bs mX13_countOrders 60 [some (vR (some ar0)), some (vI x1), some (vI x2), some (vI x3), some (vI x4), some (vI x5), some (vI x6), l7] [vI v8] h n Q) : Rn d (bc) (bs) mX13_countOrders 43 [some (vR (some ar0)), some (vI x1), some (vI x2), some (vI x3), some (vI x4), some (vI x5), some (vI x6), l7] [] h n Q := by
  refine Rn_aload_n dX13_countOrders_43 rfl rfl rfl ?_
  refine Rn_getfield (ci := 13) (k := 0) dX13_countOrders_44 rfl in_13 (Nat.le_of_ble_eq_true rfl) wd_1352 rfl h2 g4 ?_
  refine Rn_sipush dX13_countOrders_47 rfl ?_
  refine Rn_iload dX13_countOrders_50 rfl ?_
  refine Rn_iadd dX13_countOrders_52 ?_
  rw [w32_id b5.1 b5.2]
  refine Rn_iaload dX13_countOrders_53 h7 i9 g10 ?_
  refine Rn_iload dX13_countOrders_54 rfl ?_
  refine Rn_iload_n dX13_countOrders_56 rfl rfl ?_
  refine Rn_icmpne (tgt := 71) dX13_countOrders_57 rfl ?_ ?_
  · exact kt
  · exact kf
theorem BX13_countOrders_60 {d bc bs : Nat} {h : aH} {n : Nat} {Q : aQ} {r0 : Option Nat} {x1 x2 x3 x4 x5 x6 s0 : Int} {l7 : Option aV} (kt : x2 = (-1) → Rn d bc bs mX13_countOrders 71 [some (vR r0), some (vI x1), some (vI x2), some (vI x3), some (vI x4), some (vI x5), some (vI x6), l7] [vI s0] h n Q) (kf : x2 ≠ (-1) → Rn d bc bs mX13_countOrders 65 [some (vR r0), some (vI x1), some (vI x2), some (vI x3), some (vI x4), some (vI x5), some (vI x6), l7] [vI s0] h n Q) : Rn d (bc) (bs) mX13_countOrders 60 [some (vR r0), some (vI x1), some (vI x2), some (vI x3), some (vI x4), some (vI x5), some (vI x6), l7] [vI s0] h n Q := by
  refine Rn_iload_n dX13_countOrders_60 rfl rfl ?_
  refine Rn_iconst dX13_countOrders_61 rfl ?_
  refine Rn_icmpeq (tgt := 71) dX13_countOrders_62 rfl ?_ ?_
  · exact kt
  · exact kf
theorem BX13_countOrders_65 {d bc bs : Nat} {h : aH} {n : Nat} {Q : aQ} {r0 : Option Nat} {x1 x2 x3 x4 x5 x6 s0 : Int} {l7 : Option aV} (k : Rn d 0 0 mX13_has 0 [some (vI x5), some (vI x6)] [] h n (fun v h1 n1 => Rn (d + 1) bc bs mX13_countOrders 85 [some (vR r0), some (vI x1), some (vI x2), some (vI x3), some (vI x4), some (vI x5), some (vI x6), some (vI (and32 (or32 s0 (shl32 1 x2)) x4))] (v.toList ++ []) h1 n1 Q)) : Rn (d + 1) (bc) (bs) mX13_countOrders 65 [some (vR r0), some (vI x1), some (vI x2), some (vI x3), some (vI x4), some (vI x5), some (vI x6), l7] [vI s0] h n Q := by
  refine Rn_iconst dX13_countOrders_65 rfl ?_
  refine Rn_iload_n dX13_countOrders_66 rfl rfl ?_
  refine Rn_ishl dX13_countOrders_67 ?_
  refine Rn_goto (tgt := 72) dX13_countOrders_68 rfl ?_
  refine Rn_ior dX13_countOrders_72 ?_
  refine Rn_iload dX13_countOrders_73 rfl ?_
  refine Rn_iand dX13_countOrders_75 ?_
  refine Rn_istore dX13_countOrders_76 (Nat.le_of_ble_eq_true rfl) rfl rfl ?_
  refine Rn_iload dX13_countOrders_78 rfl ?_
  refine Rn_iload dX13_countOrders_80 rfl ?_
  exact Rn_callS (avs := [vI x5, vI x6]) (st := []) (bc1 := 0) (bs1 := 0) (bc2 := bc) (bs2 := bs) fx_X13_has dX13_countOrders_82 (Or.inl wd_1540) wd_1541 rfl (Nat.le_of_ble_eq_true rfl) (Nat.le_of_ble_eq_true rfl) (by omega) (by omega) (ls1 := [some (vI x5), some (vI x6)]) rfl k
theorem BX13_countOrders_71 {d bc bs : Nat} {h : aH} {n : Nat} {Q : aQ} {r0 : Option Nat} {x1 x2 x3 x4 x5 x6 s0 : Int} {l7 : Option aV} (k : Rn d 0 0 mX13_has 0 [some (vI x5), some (vI x6)] [] h n (fun v h1 n1 => Rn (d + 1) bc bs mX13_countOrders 85 [some (vR r0), some (vI x1), some (vI x2), some (vI x3), some (vI x4), some (vI x5), some (vI x6), some (vI (and32 (or32 s0 0) x4))] (v.toList ++ []) h1 n1 Q)) : Rn (d + 1) (bc) (bs) mX13_countOrders 71 [some (vR r0), some (vI x1), some (vI x2), some (vI x3), some (vI x4), some (vI x5), some (vI x6), l7] [vI s0] h n Q := by
  refine Rn_iconst dX13_countOrders_71 rfl ?_
  refine Rn_ior dX13_countOrders_72 ?_
  refine Rn_iload dX13_countOrders_73 rfl ?_
  refine Rn_iand dX13_countOrders_75 ?_
  refine Rn_istore dX13_countOrders_76 (Nat.le_of_ble_eq_true rfl) rfl rfl ?_
  refine Rn_iload dX13_countOrders_78 rfl ?_
  refine Rn_iload dX13_countOrders_80 rfl ?_
  exact Rn_callS (avs := [vI x5, vI x6]) (st := []) (bc1 := 0) (bs1 := 0) (bc2 := bc) (bs2 := bs) fx_X13_has dX13_countOrders_82 (Or.inl wd_1540) wd_1541 rfl (Nat.le_of_ble_eq_true rfl) (Nat.le_of_ble_eq_true rfl) (by omega) (by omega) (ls1 := [some (vI x5), some (vI x6)]) rfl k
theorem BX13_countOrders_85 {d bc bs : Nat} {h : aH} {n : Nat} {Q : aQ} {r0 : Option Nat} {x1 x2 x3 x4 x5 x6 x7 s0 : Int} (kt : s0 ≠ 0 → Rn d bc bs mX13_countOrders 120 [some (vR r0), some (vI x1), some (vI x2), some (vI x3), some (vI x4), some (vI x5), some (vI x6), some (vI x7)] [] h n Q) (kf : s0 = 0 → Rn d bc bs mX13_countOrders 88 [some (vR r0), some (vI x1), some (vI x2), some (vI x3), some (vI x4), some (vI x5), some (vI x6), some (vI x7)] [] h n Q) : Rn d (bc) (bs) mX13_countOrders 85 [some (vR r0), some (vI x1), some (vI x2), some (vI x3), some (vI x4), some (vI x5), some (vI x6), some (vI x7)] [vI s0] h n Q := by
  refine Rn_ifne (tgt := 120) dX13_countOrders_85 rfl ?_ ?_
  · exact kt
  · exact kf
theorem BX13_countOrders_88 {d bc bs : Nat} {h : aH} {n : Nat} {Q : aQ} {r0 : Option Nat} {x1 x2 x3 x4 x5 x6 x7 : Int} (kt : (and32 x7 (xor32 x5 (-1))) ≠ 0 → Rn d bc bs mX13_countOrders 120 [some (vR r0), some (vI x1), some (vI x2), some (vI x3), some (vI x4), some (vI x5), some (vI x6), some (vI x7)] [] h n Q) (kf : (and32 x7 (xor32 x5 (-1))) = 0 → Rn d bc bs mX13_countOrders 98 [some (vR r0), some (vI x1), some (vI x2), some (vI x3), some (vI x4), some (vI x5), some (vI x6), some (vI x7)] [] h n Q) : Rn d (bc) (bs) mX13_countOrders 88 [some (vR r0), some (vI x1), some (vI x2), some (vI x3), some (vI x4), some (vI x5), some (vI x6), some (vI x7)] [] h n Q := by
  refine Rn_iload dX13_countOrders_88 rfl ?_
  refine Rn_iload dX13_countOrders_90 rfl ?_
  refine Rn_iconst dX13_countOrders_92 rfl ?_
  refine Rn_ixor dX13_countOrders_93 ?_
  refine Rn_iand dX13_countOrders_94 ?_
  refine Rn_ifne (tgt := 120) dX13_countOrders_95 rfl ?_ ?_
  · exact kt
  · exact kf
theorem BX13_countOrders_98 {d bc bs : Nat} {h : aH} {n : Nat} {Q : aQ} {ar0 at3 : Nat} {x1 x2 x3 x4 x5 x6 x7 v7 v11 : Int} {f1 : List aV} {w5 : List Int} (h2 : h ar0 = cO 13 f1) (g4 : f1[33]? = some (vR (some at3))) (h6 : h at3 = cJ w5) (i8 : 0 ≤ x5) (g9 : w5[(x5 : Int).toNat]? = some v7) (z10 : at3 ≠ 0) (i12 : 0 ≤ or32 x5 (shl32 1 x6)) (g13 : w5[(or32 x5 (shl32 1 x6) : Int).toNat]? = some v11) (b14 : -9223372036854775808 ≤ v7 + v11 ∧ v7 + v11 < 9223372036854775808) (j15 : x5 < w5.length) (k : Rn d bc bs mX13_countOrders 120 [some (vR (some ar0)), some (vI x1), some (vI x2), some (vI x3), some (vI x4), some (vI x5), some (vI x6), some (vI x7)] [] (up h at3 (cJ (w5.set (x5 : Int).toNat (v7 + v11)))) n Q) : Rn d (bc) (bs) mX13_countOrders 98 [some (vR (some ar0)), some (vI x1), some (vI x2), some (vI x3), some (vI x4), some (vI x5), some (vI x6), some (vI x7)] [] h n Q := by
  refine Rn_aload_n dX13_countOrders_98 rfl rfl rfl ?_
  refine Rn_getfield (ci := 13) (k := 33) dX13_countOrders_99 rfl in_13 (Nat.le_of_ble_eq_true rfl) wd_1385 rfl h2 g4 ?_
  refine Rn_iload dX13_countOrders_102 rfl ?_
  refine Rn_dup2 dX13_countOrders_104 rfl rfl ?_
  refine Rn_laload dX13_countOrders_105 z10 h6 i8 g9 ?_
  refine Rn_aload_n dX13_countOrders_106 rfl rfl rfl ?_
  refine Rn_getfield (ci := 13) (k := 33) dX13_countOrders_107 rfl in_13 (Nat.le_of_ble_eq_true rfl) wd_1385 rfl h2 g4 ?_
  refine Rn_iload dX13_countOrders_110 rfl ?_
  refine Rn_iconst dX13_countOrders_112 rfl ?_
  refine Rn_iload dX13_countOrders_113 rfl ?_
  refine Rn_ishl dX13_countOrders_115 ?_
  refine Rn_ior dX13_countOrders_116 ?_
  refine Rn_laload dX13_countOrders_117 z10 h6 i12 g13 ?_
  refine Rn_ladd dX13_countOrders_118 ?_
  rw [w64_id b14.1 b14.2]
  refine Rn_lastore dX13_countOrders_119 z10 h6 i8 j15 ?_
  exact k
theorem BX13_countOrders_120 {d bc bs : Nat} {h : aH} {n : Nat} {Q : aQ} {r0 : Option Nat} {x1 x2 x3 x4 x5 x6 x7 : Int} (b1 : -2147483648 ≤ x6 + 1 ∧ x6 + 1 < 2147483648) (k : Rn d bc bs mX13_countOrders 37 [some (vR r0), some (vI x1), some (vI x2), some (vI x3), some (vI x4), some (vI x5), some (vI (x6 + 1)), some (vI x7)] [] h n Q) : Rn d (bc) (bs) mX13_countOrders 120 [some (vR r0), some (vI x1), some (vI x2), some (vI x3), some (vI x4), some (vI x5), some (vI x6), some (vI x7)] [] h n Q := by
  refine Rn_iinc dX13_countOrders_120 rfl (Nat.le_of_ble_eq_true rfl) rfl rfl rfl ?_
  rw [w32_id b1.1 b1.2]
  refine Rn_goto (tgt := 37) dX13_countOrders_123 rfl ?_
  exact k
theorem BX13_countOrders_126 {d bc bs : Nat} {h : aH} {n : Nat} {Q : aQ} {r0 : Option Nat} {x1 x2 x3 x4 x5 x6 : Int} {l7 : Option aV} (b1 : -2147483648 ≤ x5 + (-1) ∧ x5 + (-1) < 2147483648) (k : Rn d bc bs mX13_countOrders 21 [some (vR r0), some (vI x1), some (vI x2), some (vI x3), some (vI x4), some (vI (x5 + (-1))), some (vI x6), l7] [] h n Q) : Rn d (bc) (bs) mX13_countOrders 126 [some (vR r0), some (vI x1), some (vI x2), some (vI x3), some (vI x4), some (vI x5), some (vI x6), l7] [] h n Q := by
  refine Rn_iinc dX13_countOrders_126 rfl (Nat.le_of_ble_eq_true rfl) rfl rfl rfl ?_
  rw [w32_id b1.1 b1.2]
  refine Rn_goto (tgt := 21) dX13_countOrders_129 rfl ?_
  exact k
theorem BX13_countOrders_132 {d bc bs : Nat} {h : aH} {n : Nat} {Q : aQ} {ar0 at3 : Nat} {x1 x2 x3 x4 x5 v7 : Int} {l6 l7 : Option aV} {f1 : List aV} {w5 : List Int} (h2 : h ar0 = cO 13 f1) (g4 : f1[33]? = some (vR (some at3))) (h6 : h at3 = cJ w5) (g8 : w5[(0 : Int).toNat]? = some v7) (z9 : at3 ≠ 0) (k : Q (some (vL v7)) h n) : Rn d (bc) (bs) mX13_countOrders 132 [some (vR (some ar0)), some (vI x1), some (vI x2), some (vI x3), some (vI x4), some (vI x5), l6, l7] [] h n Q := by
  refine Rn_aload_n dX13_countOrders_132 rfl rfl rfl ?_
  refine Rn_getfield (ci := 13) (k := 33) dX13_countOrders_133 rfl in_13 (Nat.le_of_ble_eq_true rfl) wd_1385 rfl h2 g4 ?_
  refine Rn_iconst dX13_countOrders_136 rfl ?_
  refine Rn_laload dX13_countOrders_137 z9 h6 (by decide) g8 ?_
  exact Rn_lreturn rfl dX13_countOrders_138 k
theorem dX13_orders_0 : decode cX13_orders 0 = .ok (.iload_n 1, 1) := by decide +kernel
theorem dX13_orders_1 : decode cX13_orders 1 = .ok (.iconst 0, 1) := by decide +kernel
theorem dX13_orders_2 : decode cX13_orders 2 = .ok (.bipush 8, 2) := by decide +kernel
theorem dX13_orders_4 : decode cX13_orders 4 = .ok (.invokestatic 72, 3) := by decide +kernel
theorem dX13_orders_7 : decode cX13_orders 7 = .ok (.ifCond .eq 13, 3) := by decide +kernel
theorem dX13_orders_10 : decode cX13_orders 10 = .ok (.aload_n 0, 1) := by decide +kernel
theorem dX13_orders_11 : decode cX13_orders 11 = .ok (.iload_n 1, 1) := by decide +kernel
theorem dX13_orders_12 : decode cX13_orders 12 = .ok (.iconst (-1), 1) := by decide +kernel
theorem dX13_orders_13 : decode cX13_orders 13 = .ok (.iconst (-1), 1) := by decide +kernel
theorem dX13_orders_14 : decode cX13_orders 14 = .ok (.invokevirtual 482, 3) := by decide +kernel
theorem dX13_orders_17 : decode cX13_orders 17 = .ok (.goto 6, 3) := by decide +kernel
theorem dX13_orders_20 : decode cX13_orders 20 = .ok (.ldc2_w 438, 3) := by decide +kernel
theorem dX13_orders_23 : decode cX13_orders 23 = .ok (.lreturn, 1) := by decide +kernel
theorem BX13_orders_0 {d bc bs : Nat} {h : aH} {n : Nat} {Q : aQ} {r0 : Option Nat} {x1 : Int} (k : Rn d 0 0 mX13_isIn 0 [some (vI x1), some (vI 0), some (vI 8)] [] h n (fun v h1 n1 => Rn (d + 1) bc bs mX13_orders 7 [some (vR r0), some (vI x1)] (v.toList ++ []) h1 n1 Q)) : Rn (d + 1) (bc) (bs) mX13_orders 0 [some (vR r0), some (vI x1)] [] h n Q := by
  refine Rn_iload_n dX13_orders_0 rfl rfl ?_
  refine Rn_iconst dX13_orders_1 rfl ?_
  refine Rn_bipush dX13_orders_2 rfl ?_
  exact Rn_callS (avs := [vI x1, vI 0, vI 8]) (st := []) (bc1 := 0) (bs1 := 0) (bc2 := bc) (bs2 := bs) fx_X13_isIn dX13_orders_4 (Or.inl wd_1463) wd_1464 rfl (Nat.le_of_ble_eq_true rfl) (Nat.le_of_ble_eq_true rfl) (by omega) (by omega) (ls1 := [some (vI x1), some (vI 0), some (vI 8)]) rfl k
theorem BX13_orders_7 {d bc bs : Nat} {h : aH} {n : Nat} {Q : aQ} {r0 : Option Nat} {x1 s0 : Int} (kt : s0 = 0 → Rn d bc bs mX13_orders 20 [some (vR r0), some (vI x1)] [] h n Q) (kf : s0 ≠ 0 → Rn d bc bs mX13_orders 10 [some (vR r0), some (vI x1)] [] h n Q) : Rn d (bc) (bs) mX13_orders 7 [some (vR r0), some (vI x1)] [vI s0] h n Q := by
  refine Rn_ifeq (tgt := 20) dX13_orders_7 rfl ?_ ?_
  · exact kt
  · exact kf
theorem BX13_orders_10 {d bc bs : Nat} {h : aH} {n : Nat} {Q : aQ} {ar0 : Nat} {x1 : Int} {f1 : List aV} (h2 : h ar0 = cO 13 f1) (k : Rn d 0 0 mX13_countOrders 0 [some (vR (some ar0)), some (vI x1), some (vI (-1)), some (vI (-1)), none, none, none, none] [] h n (fun v h1 n1 => Rn (d + 1) bc bs mX13_orders 17 [some (vR (some ar0)), some (vI x1)] (v.toList ++ []) h1 n1 Q)) : Rn (d + 1) (bc) (bs) mX13_orders 10 [some (vR (some ar0)), some (vI x1)] [] h n Q := by
  refine Rn_aload_n dX13_orders_10 rfl rfl rfl ?_
  refine Rn_iload_n dX13_orders_11 rfl rfl ?_
  refine Rn_iconst dX13_orders_12 rfl ?_
  refine Rn_iconst dX13_orders_13 rfl ?_
  exact Rn_callV (ci := 13) (avs := [vI x1, vI (-1), vI (-1)]) (st := []) (bc1 := 0) (bs1 := 0) (bc2 := bc) (bs2 := bs) fx_X13_countOrders dX13_orders_14 wd_2011 wd_2013 wd_120 rfl h2 rfl (Nat.le_of_ble_eq_true rfl) (Nat.le_of_ble_eq_true rfl) (by omega) (by omega) (ls1 := [some (vR (some ar0)), some (vI x1), some (vI (-1)), some (vI (-1)), none, none, none, none]) rfl k
theorem BX13_orders_17 {d bc bs : Nat} {h : aH} {n : Nat} {Q : aQ} {r0 : Option Nat} {x1 s0 : Int} (k : Q (some (vL s0)) h n) : Rn d (bc) (bs) mX13_orders 17 [some (vR r0), some (vI x1)] [vL s0] h n Q := by
  refine Rn_goto (tgt := 23) dX13_orders_17 rfl ?_
  exact Rn_lreturn rfl dX13_orders_23 k
theorem BX13_orders_20 {d bc bs : Nat} {h : aH} {n : Nat} {Q : aQ} {r0 : Option Nat} {x1 : Int} (k : Q (some (vL (-1))) h n) : Rn d (bc) (bs) mX13_orders 20 [some (vR r0), some (vI x1)] [] h n Q := by
  refine Rn_ldc2 (x := (-1)) dX13_orders_20 wd_1931 rfl ?_
  exact Rn_lreturn rfl dX13_orders_23 k
theorem dX13_sure_0 : decode cX13_sure 0 = .ok (.iload_n 1, 1) := by decide +kernel
theorem dX13_sure_1 : decode cX13_sure 1 = .ok (.iconst 0, 1) := by decide +kernel
theorem dX13_sure_2 : decode cX13_sure 2 = .ok (.bipush 8, 2) := by decide +kernel
theorem dX13_sure_4 : decode cX13_sure 4 = .ok (.invokestatic 72, 3) := by decide +kernel
theorem dX13_sure_7 : decode cX13_sure 7 = .ok (.ifCond .eq 30, 3) := by decide +kernel
theorem dX13_sure_10 : decode cX13_sure 10 = .ok (.iload_n 2, 1) := by decide +kernel
theorem dX13_sure_11 : decode cX13_sure 11 = .ok (.iconst 0, 1) := by decide +kernel
theorem dX13_sure_12 : decode cX13_sure 12 = .ok (.iload_n 1, 1) := by decide +kernel
theorem dX13_sure_13 : decode cX13_sure 13 = .ok (.iconst 1, 1) := by decide +kernel
theorem dX13_sure_14 : decode cX13_sure 14 = .ok (.isub, 1) := by decide +kernel
theorem dX13_sure_15 : decode cX13_sure 15 = .ok (.invokestatic 72, 3) := by decide +kernel
theorem dX13_sure_18 : decode cX13_sure 18 = .ok (.ifCond .eq 19, 3) := by decide +kernel
theorem dX13_sure_21 : decode cX13_sure 21 = .ok (.iload_n 3, 1) := by decide +kernel
theorem dX13_sure_22 : decode cX13_sure 22 = .ok (.iconst 0, 1) := by decide +kernel
theorem dX13_sure_23 : decode cX13_sure 23 = .ok (.iload_n 1, 1) := by decide +kernel
theorem dX13_sure_24 : decode cX13_sure 24 = .ok (.iconst 1, 1) := by decide +kernel
theorem dX13_sure_25 : decode cX13_sure 25 = .ok (.isub, 1) := by decide +kernel
theorem dX13_sure_26 : decode cX13_sure 26 = .ok (.invokestatic 72, 3) := by decide +kernel
theorem dX13_sure_29 : decode cX13_sure 29 = .ok (.ifCond .eq 8, 3) := by decide +kernel
theorem dX13_sure_32 : decode cX13_sure 32 = .ok (.iload_n 2, 1) := by decide +kernel
theorem dX13_sure_33 : decode cX13_sure 33 = .ok (.iload_n 3, 1) := by decide +kernel
theorem dX13_sure_34 : decode cX13_sure 34 = .ok (.if_icmp .ne 6, 3) := by decide +kernel
theorem dX13_sure_37 : decode cX13_sure 37 = .ok (.bipush (-2), 2) := by decide +kernel
theorem dX13_sure_39 : decode cX13_sure 39 = .ok (.ireturn, 1) := by decide +kernel
theorem dX13_sure_40 : decode cX13_sure 40 = .ok (.aload_n 0, 1) := by decide +kernel
theorem dX13_sure_41 : decode cX13_sure 41 = .ok (.iload_n 1, 1) := by decide +kernel
theorem dX13_sure_42 : decode cX13_sure 42 = .ok (.iconst (-1), 1) := by decide +kernel
theorem dX13_sure_43 : decode cX13_sure 43 = .ok (.iconst (-1), 1) := by decide +kernel
theorem dX13_sure_44 : decode cX13_sure 44 = .ok (.invokevirtual 482, 3) := by decide +kernel
theorem dX13_sure_47 : decode cX13_sure 47 = .ok (.lstore 4, 2) := by decide +kernel
theorem dX13_sure_49 : decode cX13_sure 49 = .ok (.lload 4, 2) := by decide +kernel
theorem dX13_sure_51 : decode cX13_sure 51 = .ok (.lconst 0, 1) := by decide +kernel
theorem dX13_sure_52 : decode cX13_sure 52 = .ok (.lcmp, 1) := by decide +kernel
theorem dX13_sure_53 : decode cX13_sure 53 = .ok (.ifCond .ne 6, 3) := by decide +kernel
theorem dX13_sure_56 : decode cX13_sure 56 = .ok (.bipush (-2), 2) := by decide +kernel
theorem dX13_sure_58 : decode cX13_sure 58 = .ok (.ireturn, 1) := by decide +kernel
theorem dX13_sure_59 : decode cX13_sure 59 = .ok (.aload_n 0, 1) := by decide +kernel
theorem dX13_sure_60 : decode cX13_sure 60 = .ok (.iload_n 1, 1) := by decide +kernel
theorem dX13_sure_61 : decode cX13_sure 61 = .ok (.iload_n 2, 1) := by decide +kernel
theorem dX13_sure_62 : decode cX13_sure 62 = .ok (.iload_n 3, 1) := by decide +kernel
theorem dX13_sure_63 : decode cX13_sure 63 = .ok (.invokevirtual 482, 3) := by decide +kernel
theorem dX13_sure_66 : decode cX13_sure 66 = .ok (.lstore 6, 2) := by decide +kernel
theorem dX13_sure_68 : decode cX13_sure 68 = .ok (.lload 6, 2) := by decide +kernel
theorem dX13_sure_70 : decode cX13_sure 70 = .ok (.lload 4, 2) := by decide +kernel
theorem dX13_sure_72 : decode cX13_sure 72 = .ok (.lcmp, 1) := by decide +kernel
theorem dX13_sure_73 : decode cX13_sure 73 = .ok (.ifCond .ne 7, 3) := by decide +kernel
theorem dX13_sure_76 : decode cX13_sure 76 = .ok (.iconst 1, 1) := by decide +kernel
theorem dX13_sure_77 : decode cX13_sure 77 = .ok (.goto 15, 3) := by decide +kernel
theorem dX13_sure_80 : decode cX13_sure 80 = .ok (.lload 6, 2) := by decide +kernel
theorem dX13_sure_82 : decode cX13_sure 82 = .ok (.lconst 0, 1) := by decide +kernel
theorem dX13_sure_83 : decode cX13_sure 83 = .ok (.lcmp, 1) := by decide +kernel
theorem dX13_sure_84 : decode cX13_sure 84 = .ok (.ifCond .ne 7, 3) := by decide +kernel
theorem dX13_sure_87 : decode cX13_sure 87 = .ok (.iconst (-1), 1) := by decide +kernel
theorem dX13_sure_88 : decode cX13_sure 88 = .ok (.goto 4, 3) := by decide +kernel
theorem dX13_sure_91 : decode cX13_sure 91 = .ok (.iconst 0, 1) := by decide +kernel
theorem dX13_sure_92 : decode cX13_sure 92 = .ok (.ireturn, 1) := by decide +kernel
theorem BX13_sure_0 {d bc bs : Nat} {h : aH} {n : Nat} {Q : aQ} {r0 : Option Nat} {x1 x2 x3 : Int} {l4 l5 l6 l7 : Option aV} (k : Rn d 0 0 mX13_isIn 0 [some (vI x1), some (vI 0), some (vI 8)] [] h n (fun v h1 n1 => Rn (d + 1) bc bs mX13_sure 7 [some (vR r0), some (vI x1), some (vI x2), some (vI x3), l4, l5, l6, l7] (v.toList ++ []) h1 n1 Q)) : Rn (d + 1) (bc) (bs) mX13_sure 0 [some (vR r0), some (vI x1), some (vI x2), some (vI x3), l4, l5, l6, l7] [] h n Q := by
  refine Rn_iload_n dX13_sure_0 rfl rfl ?_
  refine Rn_iconst dX13_sure_1 rfl ?_
  refine Rn_bipush dX13_sure_2 rfl ?_
  exact Rn_callS (avs := [vI x1, vI 0, vI 8]) (st := []) (bc1 := 0) (bs1 := 0) (bc2 := bc) (bs2 := bs) fx_X13_isIn dX13_sure_4 (Or.inl wd_1463) wd_1464 rfl (Nat.le_of_ble_eq_true rfl) (Nat.le_of_ble_eq_true rfl) (by omega) (by omega) (ls1 := [some (vI x1), some (vI 0), some (vI 8)]) rfl k
theorem BX13_sure_7 {d bc bs : Nat} {h : aH} {n : Nat} {Q : aQ} {r0 : Option Nat} {x1 x2 x3 s0 : Int} {l4 l5 l6 l7 : Option aV} (kt : s0 = 0 → Rn d bc bs mX13_sure 37 [some (vR r0), some (vI x1), some (vI x2), some (vI x3), l4, l5, l6, l7] [] h n Q) (kf : s0 ≠ 0 → Rn d bc bs mX13_sure 10 [some (vR r0), some (vI x1), some (vI x2), some (vI x3), l4, l5, l6, l7] [] h n Q) : Rn d (bc) (bs) mX13_sure 7 [some (vR r0), some (vI x1), some (vI x2), some (vI x3), l4, l5, l6, l7] [vI s0] h n Q := by
  refine Rn_ifeq (tgt := 37) dX13_sure_7 rfl ?_ ?_
  · exact kt
  · exact kf
theorem BX13_sure_10 {d bc bs : Nat} {h : aH} {n : Nat} {Q : aQ} {r0 : Option Nat} {x1 x2 x3 : Int} {l4 l5 l6 l7 : Option aV} (b1 : -2147483648 ≤ x1 - 1 ∧ x1 - 1 < 2147483648) (k : Rn d 0 0 mX13_isIn 0 [some (vI x2), some (vI 0), some (vI (x1 - 1))] [] h n (fun v h1 n1 => Rn (d + 1) bc bs mX13_sure 18 [some (vR r0), some (vI x1), some (vI x2), some (vI x3), l4, l5, l6, l7] (v.toList ++ []) h1 n1 Q)) : Rn (d + 1) (bc) (bs) mX13_sure 10 [some (vR r0), some (vI x1), some (vI x2), some (vI x3), l4, l5, l6, l7] [] h n Q := by
  refine Rn_iload_n dX13_sure_10 rfl rfl ?_
  refine Rn_iconst dX13_sure_11 rfl ?_
  refine Rn_iload_n dX13_sure_12 rfl rfl ?_
  refine Rn_iconst dX13_sure_13 rfl ?_
  refine Rn_isub dX13_sure_14 ?_
  rw [w32_id b1.1 b1.2]
  exact Rn_callS (avs := [vI x2, vI 0, vI (x1 - 1)]) (st := []) (bc1 := 0) (bs1 := 0) (bc2 := bc) (bs2 := bs) fx_X13_isIn dX13_sure_15 (Or.inl wd_1463) wd_1464 rfl (Nat.le_of_ble_eq_true rfl) (Nat.le_of_ble_eq_true rfl) (by omega) (by omega) (ls1 := [some (vI x2), some (vI 0), some (vI (x1 - 1))]) rfl k
theorem BX13_sure_18 {d bc bs : Nat} {h : aH} {n : Nat} {Q : aQ} {r0 : Option Nat} {x1 x2 x3 s0 : Int} {l4 l5 l6 l7 : Option aV} (kt : s0 = 0 → Rn d bc bs mX13_sure 37 [some (vR r0), some (vI x1), some (vI x2), some (vI x3), l4, l5, l6, l7] [] h n Q) (kf : s0 ≠ 0 → Rn d bc bs mX13_sure 21 [some (vR r0), some (vI x1), some (vI x2), some (vI x3), l4, l5, l6, l7] [] h n Q) : Rn d (bc) (bs) mX13_sure 18 [some (vR r0), some (vI x1), some (vI x2), some (vI x3), l4, l5, l6, l7] [vI s0] h n Q := by
  refine Rn_ifeq (tgt := 37) dX13_sure_18 rfl ?_ ?_
  · exact kt
  · exact kf
theorem BX13_sure_21 {d bc bs : Nat} {h : aH} {n : Nat} {Q : aQ} {r0 : Option Nat} {x1 x2 x3 : Int} {l4 l5 l6 l7 : Option aV} (b1 : -2147483648 ≤ x1 - 1 ∧ x1 - 1 < 2147483648) (k : Rn d 0 0 mX13_isIn 0 [some (vI x3), some (vI 0), some (vI (x1 - 1))] [] h n (fun v h1 n1 => Rn (d + 1) bc bs mX13_sure 29 [some (vR r0), some (vI x1), some (vI x2), some (vI x3), l4, l5, l6, l7] (v.toList ++ []) h1 n1 Q)) : Rn (d + 1) (bc) (bs) mX13_sure 21 [some (vR r0), some (vI x1), some (vI x2), some (vI x3), l4, l5, l6, l7] [] h n Q := by
  refine Rn_iload_n dX13_sure_21 rfl rfl ?_
  refine Rn_iconst dX13_sure_22 rfl ?_
  refine Rn_iload_n dX13_sure_23 rfl rfl ?_
  refine Rn_iconst dX13_sure_24 rfl ?_
  refine Rn_isub dX13_sure_25 ?_
  rw [w32_id b1.1 b1.2]
  exact Rn_callS (avs := [vI x3, vI 0, vI (x1 - 1)]) (st := []) (bc1 := 0) (bs1 := 0) (bc2 := bc) (bs2 := bs) fx_X13_isIn dX13_sure_26 (Or.inl wd_1463) wd_1464 rfl (Nat.le_of_ble_eq_true rfl) (Nat.le_of_ble_eq_true rfl) (by omega) (by omega) (ls1 := [some (vI x3), some (vI 0), some (vI (x1 - 1))]) rfl k
theorem BX13_sure_29 {d bc bs : Nat} {h : aH} {n : Nat} {Q : aQ} {r0 : Option Nat} {x1 x2 x3 s0 : Int} {l4 l5 l6 l7 : Option aV} (kt : s0 = 0 → Rn d bc bs mX13_sure 37 [some (vR r0), some (vI x1), some (vI x2), some (vI x3), l4, l5, l6, l7] [] h n Q) (kf : s0 ≠ 0 → Rn d bc bs mX13_sure 32 [some (vR r0), some (vI x1), some (vI x2), some (vI x3), l4, l5, l6, l7] [] h n Q) : Rn d (bc) (bs) mX13_sure 29 [some (vR r0), some (vI x1), some (vI x2), some (vI x3), l4, l5, l6, l7] [vI s0] h n Q := by
  refine Rn_ifeq (tgt := 37) dX13_sure_29 rfl ?_ ?_
  · exact kt
  · exact kf
theorem BX13_sure_32 {d bc bs : Nat} {h : aH} {n : Nat} {Q : aQ} {r0 : Option Nat} {x1 x2 x3 : Int} {l4 l5 l6 l7 : Option aV} (kt : x2 ≠ x3 → Rn d bc bs mX13_sure 40 [some (vR r0), some (vI x1), some (vI x2), some (vI x3), l4, l5, l6, l7] [] h n Q) (kf : x2 = x3 → Rn d bc bs mX13_sure 37 [some (vR r0), some (vI x1), some (vI x2), some (vI x3), l4, l5, l6, l7] [] h n Q) : Rn d (bc) (bs) mX13_sure 32 [some (vR r0), some (vI x1), some (vI x2), some (vI x3), l4, l5, l6, l7] [] h n Q := by
  refine Rn_iload_n dX13_sure_32 rfl rfl ?_
  refine Rn_iload_n dX13_sure_33 rfl rfl ?_
  refine Rn_icmpne (tgt := 40) dX13_sure_34 rfl ?_ ?_
  · exact kt
  · exact kf
theorem BX13_sure_37 {d bc bs : Nat} {h : aH} {n : Nat} {Q : aQ} {r0 : Option Nat} {x1 x2 x3 : Int} {l4 l5 l6 l7 : Option aV} (k : Q (some (vI (-2))) h n) : Rn d (bc) (bs) mX13_sure 37 [some (vR r0), some (vI x1), some (vI x2), some (vI x3), l4, l5, l6, l7] [] h n Q := by
  refine Rn_bipush dX13_sure_37 rfl ?_
  exact Rn_ireturn rfl dX13_sure_39 k
theorem BX13_sure_40 {d bc bs : Nat} {h : aH} {n : Nat} {Q : aQ} {ar0 : Nat} {x1 x2 x3 : Int} {l4 l5 l6 l7 : Option aV} {f1 : List aV} (h2 : h ar0 = cO 13 f1) (k : Rn d 0 0 mX13_countOrders 0 [some (vR (some ar0)), some (vI x1), some (vI (-1)), some (vI (-1)), none, none, none, none] [] h n (fun v h1 n1 => Rn (d + 1) bc bs mX13_sure 47 [some (vR (some ar0)), some (vI x1), some (vI x2), some (vI x3), l4, l5, l6, l7] (v.toList ++ []) h1 n1 Q)) : Rn (d + 1) (bc) (bs) mX13_sure 40 [some (vR (some ar0)), some (vI x1), some (vI x2), some (vI x3), l4, l5, l6, l7] [] h n Q := by
  refine Rn_aload_n dX13_sure_40 rfl rfl rfl ?_
  refine Rn_iload_n dX13_sure_41 rfl rfl ?_
  refine Rn_iconst dX13_sure_42 rfl ?_
  refine Rn_iconst dX13_sure_43 rfl ?_
  exact Rn_callV (ci := 13) (avs := [vI x1, vI (-1), vI (-1)]) (st := []) (bc1 := 0) (bs1 := 0) (bc2 := bc) (bs2 := bs) fx_X13_countOrders dX13_sure_44 wd_2011 wd_2013 wd_120 rfl h2 rfl (Nat.le_of_ble_eq_true rfl) (Nat.le_of_ble_eq_true rfl) (by omega) (by omega) (ls1 := [some (vR (some ar0)), some (vI x1), some (vI (-1)), some (vI (-1)), none, none, none, none]) rfl k
theorem BX13_sure_47 {d bc bs : Nat} {h : aH} {n : Nat} {Q : aQ} {r0 : Option Nat} {x1 x2 x3 s0 : Int} {l4 l5 l6 l7 : Option aV} (kt : s0 ≠ 0 → Rn d bc bs mX13_sure 59 [some (vR r0), some (vI x1), some (vI x2), some (vI x3), some (vL s0), none, l6, l7] [] h n Q) (kf : s0 = 0 → Rn d bc bs mX13_sure 56 [some (vR r0), some (vI x1), some (vI x2), some (vI x3), some (vL s0), none, l6, l7] [] h n Q) : Rn d (bc) (bs) mX13_sure 47 [some (vR r0), some (vI x1), some (vI x2), some (vI x3), l4, l5, l6, l7] [vL s0] h n Q := by
  refine Rn_lstore dX13_sure_47 (Nat.le_of_ble_eq_true rfl) rfl rfl ?_
  refine Rn_lload dX13_sure_49 rfl ?_
  refine Rn_lconst (x := 0) dX13_sure_51 rfl ?_
  refine Rn_lcmp dX13_sure_52 ?_
  refine Rn_ifne (tgt := 59) dX13_sure_53 rfl ?_ ?_
  · exact fun q => kt (lc_ne q)
  · exact fun q => kf (lc_eq q)
theorem BX13_sure_56 {d bc bs : Nat} {h : aH} {n : Nat} {Q : aQ} {r0 : Option Nat} {x1 x2 x3 x4 : Int} {l6 l7 : Option aV} (k : Q (some (vI (-2))) h n) : Rn d (bc) (bs) mX13_sure 56 [some (vR r0), some (vI x1), some (vI x2), some (vI x3), some (vL x4), none, l6, l7] [] h n Q := by
  refine Rn_bipush dX13_sure_56 rfl ?_
  exact Rn_ireturn rfl dX13_sure_58 k
theorem BX13_sure_59 {d bc bs : Nat} {h : aH} {n : Nat} {Q : aQ} {ar0 : Nat} {x1 x2 x3 x4 : Int} {l6 l7 : Option aV} {f1 : List aV} (h2 : h ar0 = cO 13 f1) (k : Rn d 0 0 mX13_countOrders 0 [some (vR (some ar0)), some (vI x1), some (vI x2), some (vI x3), none, none, none, none] [] h n (fun v h1 n1 => Rn (d + 1) bc bs mX13_sure 66 [some (vR (some ar0)), some (vI x1), some (vI x2), some (vI x3), some (vL x4), none, l6, l7] (v.toList ++ []) h1 n1 Q)) : Rn (d + 1) (bc) (bs) mX13_sure 59 [some (vR (some ar0)), some (vI x1), some (vI x2), some (vI x3), some (vL x4), none, l6, l7] [] h n Q := by
  refine Rn_aload_n dX13_sure_59 rfl rfl rfl ?_
  refine Rn_iload_n dX13_sure_60 rfl rfl ?_
  refine Rn_iload_n dX13_sure_61 rfl rfl ?_
  refine Rn_iload_n dX13_sure_62 rfl rfl ?_
  exact Rn_callV (ci := 13) (avs := [vI x1, vI x2, vI x3]) (st := []) (bc1 := 0) (bs1 := 0) (bc2 := bc) (bs2 := bs) fx_X13_countOrders dX13_sure_63 wd_2011 wd_2013 wd_120 rfl h2 rfl (Nat.le_of_ble_eq_true rfl) (Nat.le_of_ble_eq_true rfl) (by omega) (by omega) (ls1 := [some (vR (some ar0)), some (vI x1), some (vI x2), some (vI x3), none, none, none, none]) rfl k
theorem BX13_sure_66 {d bc bs : Nat} {h : aH} {n : Nat} {Q : aQ} {r0 : Option Nat} {x1 x2 x3 x4 s0 : Int} {l6 l7 : Option aV} (kt : s0 ≠ x4 → Rn d bc bs mX13_sure 80 [some (vR r0), some (vI x1), some (vI x2), some (vI x3), some (vL x4), none, some (vL s0), none] [] h n Q) (kf : s0 = x4 → Rn d bc bs mX13_sure 76 [some (vR r0), some (vI x1), some (vI x2), some (vI x3), some (vL x4), none, some (vL s0), none] [] h n Q) : Rn d (bc) (bs) mX13_sure 66 [some (vR r0), some (vI x1), some (vI x2), some (vI x3), some (vL x4), none, l6, l7] [vL s0] h n Q := by
  refine Rn_lstore dX13_sure_66 (Nat.le_of_ble_eq_true rfl) rfl rfl ?_
  refine Rn_lload dX13_sure_68 rfl ?_
  refine Rn_lload dX13_sure_70 rfl ?_
  refine Rn_lcmp dX13_sure_72 ?_
  refine Rn_ifne (tgt := 80) dX13_sure_73 rfl ?_ ?_
  · exact fun q => kt (lc_ne q)
  · exact fun q => kf (lc_eq q)
theorem BX13_sure_76 {d bc bs : Nat} {h : aH} {n : Nat} {Q : aQ} {r0 : Option Nat} {x1 x2 x3 x4 x6 : Int} (k : Q (some (vI 1)) h n) : Rn d (bc) (bs) mX13_sure 76 [some (vR r0), some (vI x1), some (vI x2), some (vI x3), some (vL x4), none, some (vL x6), none] [] h n Q := by
  refine Rn_iconst dX13_sure_76 rfl ?_
  refine Rn_goto (tgt := 92) dX13_sure_77 rfl ?_
  exact Rn_ireturn rfl dX13_sure_92 k
theorem BX13_sure_80 {d bc bs : Nat} {h : aH} {n : Nat} {Q : aQ} {r0 : Option Nat} {x1 x2 x3 x4 x6 : Int} (kt : x6 ≠ 0 → Rn d bc bs mX13_sure 91 [some (vR r0), some (vI x1), some (vI x2), some (vI x3), some (vL x4), none, some (vL x6), none] [] h n Q) (kf : x6 = 0 → Rn d bc bs mX13_sure 87 [some (vR r0), some (vI x1), some (vI x2), some (vI x3), some (vL x4), none, some (vL x6), none] [] h n Q) : Rn d (bc) (bs) mX13_sure 80 [some (vR r0), some (vI x1), some (vI x2), some (vI x3), some (vL x4), none, some (vL x6), none] [] h n Q := by
  refine Rn_lload dX13_sure_80 rfl ?_
  refine Rn_lconst (x := 0) dX13_sure_82 rfl ?_
  refine Rn_lcmp dX13_sure_83 ?_
  refine Rn_ifne (tgt := 91) dX13_sure_84 rfl ?_ ?_
  · exact fun q => kt (lc_ne q)
  · exact fun q => kf (lc_eq q)
theorem BX13_sure_87 {d bc bs : Nat} {h : aH} {n : Nat} {Q : aQ} {r0 : Option Nat} {x1 x2 x3 x4 x6 : Int} (k : Q (some (vI (-1))) h n) : Rn d (bc) (bs) mX13_sure 87 [some (vR r0), some (vI x1), some (vI x2), some (vI x3), some (vL x4), none, some (vL x6), none] [] h n Q := by
  refine Rn_iconst dX13_sure_87 rfl ?_
  refine Rn_goto (tgt := 92) dX13_sure_88 rfl ?_
  exact Rn_ireturn rfl dX13_sure_92 k
theorem BX13_sure_91 {d bc bs : Nat} {h : aH} {n : Nat} {Q : aQ} {r0 : Option Nat} {x1 x2 x3 x4 x6 : Int} (k : Q (some (vI 0)) h n) : Rn d (bc) (bs) mX13_sure 91 [some (vR r0), some (vI x1), some (vI x2), some (vI x3), some (vL x4), none, some (vL x6), none] [] h n Q := by
  refine Rn_iconst dX13_sure_91 rfl ?_
  exact Rn_ireturn rfl dX13_sure_92 k
theorem dX13_said_0 : decode cX13_said 0 = .ok (.iload_n 1, 1) := by decide +kernel
theorem dX13_said_1 : decode cX13_said 1 = .ok (.iconst (-1), 1) := by decide +kernel
theorem dX13_said_2 : decode cX13_said 2 = .ok (.if_icmp .ne 13, 3) := by decide +kernel
theorem dX13_said_5 : decode cX13_said 5 = .ok (.aload_n 0, 1) := by decide +kernel
theorem dX13_said_6 : decode cX13_said 6 = .ok (.getfield 7, 3) := by decide +kernel
theorem dX13_said_9 : decode cX13_said 9 = .ok (.bipush 6, 2) := by decide +kernel
theorem dX13_said_11 : decode cX13_said 11 = .ok (.iconst 0, 1) := by decide +kernel
theorem dX13_said_12 : decode cX13_said 12 = .ok (.iastore, 1) := by decide +kernel
theorem dX13_said_13 : decode cX13_said 13 = .ok (.iconst 0, 1) := by decide +kernel
theorem dX13_said_14 : decode cX13_said 14 = .ok (.ireturn, 1) := by decide +kernel
theorem dX13_said_15 : decode cX13_said 15 = .ok (.aload_n 0, 1) := by decide +kernel
theorem dX13_said_16 : decode cX13_said 16 = .ok (.iload_n 1, 1) := by decide +kernel
theorem dX13_said_17 : decode cX13_said 17 = .ok (.invokevirtual 76, 3) := by decide +kernel
theorem dX13_said_20 : decode cX13_said 20 = .ok (.ifCond .eq 25, 3) := by decide +kernel
theorem dX13_said_23 : decode cX13_said 23 = .ok (.iload_n 2, 1) := by decide +kernel
theorem dX13_said_24 : decode cX13_said 24 = .ok (.iconst 0, 1) := by decide +kernel
theorem dX13_said_25 : decode cX13_said 25 = .ok (.bipush 10, 2) := by decide +kernel
theorem dX13_said_27 : decode cX13_said 27 = .ok (.invokestatic 72, 3) := by decide +kernel
theorem dX13_said_30 : decode cX13_said 30 = .ok (.ifCond .eq 15, 3) := by decide +kernel
theorem dX13_said_33 : decode cX13_said 33 = .ok (.aload_n 0, 1) := by decide +kernel
theorem dX13_said_34 : decode cX13_said 34 = .ok (.getfield 7, 3) := by decide +kernel
theorem dX13_said_37 : decode cX13_said 37 = .ok (.bipush 6, 2) := by decide +kernel
theorem dX13_said_39 : decode cX13_said 39 = .ok (.iaload, 1) := by decide +kernel
theorem dX13_said_40 : decode cX13_said 40 = .ok (.bipush 8, 2) := by decide +kernel
theorem dX13_said_42 : decode cX13_said 42 = .ok (.if_icmp .ne 6, 3) := by decide +kernel
theorem dX13_said_45 : decode cX13_said 45 = .ok (.bipush (-2), 2) := by decide +kernel
theorem dX13_said_47 : decode cX13_said 47 = .ok (.ireturn, 1) := by decide +kernel
theorem dX13_said_48 : decode cX13_said 48 = .ok (.aload_n 0, 1) := by decide +kernel
theorem dX13_said_49 : decode cX13_said 49 = .ok (.getfield 7, 3) := by decide +kernel
theorem dX13_said_52 : decode cX13_said 52 = .ok (.sipush 163, 3) := by decide +kernel
theorem dX13_said_55 : decode cX13_said 55 = .ok (.iconst 2, 1) := by decide +kernel
theorem dX13_said_56 : decode cX13_said 56 = .ok (.aload_n 0, 1) := by decide +kernel
theorem dX13_said_57 : decode cX13_said 57 = .ok (.getfield 7, 3) := by decide +kernel
theorem dX13_said_60 : decode cX13_said 60 = .ok (.bipush 6, 2) := by decide +kernel
theorem dX13_said_62 : decode cX13_said 62 = .ok (.iaload, 1) := by decide +kernel
theorem dX13_said_63 : decode cX13_said 63 = .ok (.imul, 1) := by decide +kernel
theorem dX13_said_64 : decode cX13_said 64 = .ok (.iadd, 1) := by decide +kernel
theorem dX13_said_65 : decode cX13_said 65 = .ok (.iload_n 1, 1) := by decide +kernel
theorem dX13_said_66 : decode cX13_said 66 = .ok (.iastore, 1) := by decide +kernel
theorem dX13_said_67 : decode cX13_said 67 = .ok (.aload_n 0, 1) := by decide +kernel
theorem dX13_said_68 : decode cX13_said 68 = .ok (.getfield 7, 3) := by decide +kernel
theorem dX13_said_71 : decode cX13_said 71 = .ok (.sipush 163, 3) := by decide +kernel
theorem dX13_said_74 : decode cX13_said 74 = .ok (.iconst 2, 1) := by decide +kernel
theorem dX13_said_75 : decode cX13_said 75 = .ok (.aload_n 0, 1) := by decide +kernel
theorem dX13_said_76 : decode cX13_said 76 = .ok (.getfield 7, 3) := by decide +kernel
theorem dX13_said_79 : decode cX13_said 79 = .ok (.bipush 6, 2) := by decide +kernel
theorem dX13_said_81 : decode cX13_said 81 = .ok (.iaload, 1) := by decide +kernel
theorem dX13_said_82 : decode cX13_said 82 = .ok (.imul, 1) := by decide +kernel
theorem dX13_said_83 : decode cX13_said 83 = .ok (.iadd, 1) := by decide +kernel
theorem dX13_said_84 : decode cX13_said 84 = .ok (.iconst 1, 1) := by decide +kernel
theorem dX13_said_85 : decode cX13_said 85 = .ok (.iadd, 1) := by decide +kernel
theorem dX13_said_86 : decode cX13_said 86 = .ok (.iload_n 2, 1) := by decide +kernel
theorem dX13_said_87 : decode cX13_said 87 = .ok (.iastore, 1) := by decide +kernel
theorem dX13_said_88 : decode cX13_said 88 = .ok (.aload_n 0, 1) := by decide +kernel
theorem dX13_said_89 : decode cX13_said 89 = .ok (.getfield 7, 3) := by decide +kernel
theorem dX13_said_92 : decode cX13_said 92 = .ok (.bipush 6, 2) := by decide +kernel
theorem dX13_said_94 : decode cX13_said 94 = .ok (.dup2, 1) := by decide +kernel
theorem dX13_said_95 : decode cX13_said 95 = .ok (.iaload, 1) := by decide +kernel
theorem dX13_said_96 : decode cX13_said 96 = .ok (.iconst 1, 1) := by decide +kernel
theorem dX13_said_97 : decode cX13_said 97 = .ok (.iadd, 1) := by decide +kernel
theorem dX13_said_98 : decode cX13_said 98 = .ok (.iastore, 1) := by decide +kernel
theorem dX13_said_99 : decode cX13_said 99 = .ok (.aload_n 0, 1) := by decide +kernel
theorem dX13_said_100 : decode cX13_said 100 = .ok (.getfield 7, 3) := by decide +kernel
theorem dX13_said_103 : decode cX13_said 103 = .ok (.bipush 6, 2) := by decide +kernel
theorem dX13_said_105 : decode cX13_said 105 = .ok (.iaload, 1) := by decide +kernel
theorem dX13_said_106 : decode cX13_said 106 = .ok (.ireturn, 1) := by decide +kernel
theorem BX13_said_0 {d bc bs : Nat} {h : aH} {n : Nat} {Q : aQ} {r0 : Option Nat} {x1 x2 : Int} (kt : x1 ≠ (-1) → Rn d bc bs mX13_said 15 [some (vR r0), some (vI x1), some (vI x2)] [] h n Q) (kf : x1 = (-1) → Rn d bc bs mX13_said 5 [some (vR r0), some (vI x1), some (vI x2)] [] h n Q) : Rn d (bc) (bs) mX13_said 0 [some (vR r0), some (vI x1), some (vI x2)] [] h n Q := by
  refine Rn_iload_n dX13_said_0 rfl rfl ?_
  refine Rn_iconst dX13_said_1 rfl ?_
  refine Rn_icmpne (tgt := 15) dX13_said_2 rfl ?_ ?_
  · exact kt
  · exact kf
theorem BX13_said_5 {d bc bs : Nat} {h : aH} {n : Nat} {Q : aQ} {ar0 at3 : Nat} {x1 x2 : Int} {f1 : List aV} {w5 : List Int} (h2 : h ar0 = cO 13 f1) (g4 : f1[0]? = some (vR (some at3))) (h6 : h at3 = cI w5) (j7 : (6 : Int) < w5.length) (z8 : at3 ≠ 0) (k : Rn d bc bs mX13_said 13 [some (vR (some ar0)), some (vI x1), some (vI x2)] [] (up h at3 (cI (w5.set (6 : Int).toNat 0))) n Q) : Rn d (bc) (bs) mX13_said 5 [some (vR (some ar0)), some (vI x1), some (vI x2)] [] h n Q := by
  refine Rn_aload_n dX13_said_5 rfl rfl rfl ?_
  refine Rn_getfield (ci := 13) (k := 0) dX13_said_6 rfl in_13 (Nat.le_of_ble_eq_true rfl) wd_1352 rfl h2 g4 ?_
  refine Rn_bipush dX13_said_9 rfl ?_
  refine Rn_iconst dX13_said_11 rfl ?_
  refine Rn_iastore dX13_said_12 z8 h6 (by decide) j7 ?_
  exact k
theorem BX13_said_13 {d bc bs : Nat} {h : aH} {n : Nat} {Q : aQ} {r0 : Option Nat} {x1 x2 : Int} (k : Q (some (vI 0)) h n) : Rn d (bc) (bs) mX13_said 13 [some (vR r0), some (vI x1), some (vI x2)] [] h n Q := by
  refine Rn_iconst dX13_said_13 rfl ?_
  exact Rn_ireturn rfl dX13_said_14 k
theorem BX13_said_15 {d bc bs : Nat} {h : aH} {n : Nat} {Q : aQ} {ar0 : Nat} {x1 x2 : Int} {f1 : List aV} (h2 : h ar0 = cO 13 f1) (k : Rn d 0 0 mX13_isBottle 0 [some (vR (some ar0)), some (vI x1)] [] h n (fun v h1 n1 => Rn (d + 1) bc bs mX13_said 20 [some (vR (some ar0)), some (vI x1), some (vI x2)] (v.toList ++ []) h1 n1 Q)) : Rn (d + 1) (bc) (bs) mX13_said 15 [some (vR (some ar0)), some (vI x1), some (vI x2)] [] h n Q := by
  refine Rn_aload_n dX13_said_15 rfl rfl rfl ?_
  refine Rn_iload_n dX13_said_16 rfl rfl ?_
  exact Rn_callV (ci := 13) (avs := [vI x1]) (st := []) (bc1 := 0) (bs1 := 0) (bc2 := bc) (bs2 := bs) fx_X13_isBottle dX13_said_17 wd_1678 wd_1680 wd_81 rfl h2 rfl (Nat.le_of_ble_eq_true rfl) (Nat.le_of_ble_eq_true rfl) (by omega) (by omega) (ls1 := [some (vR (some ar0)), some (vI x1)]) rfl k
theorem BX13_said_20 {d bc bs : Nat} {h : aH} {n : Nat} {Q : aQ} {r0 : Option Nat} {x1 x2 s0 : Int} (kt : s0 = 0 → Rn d bc bs mX13_said 45 [some (vR r0), some (vI x1), some (vI x2)] [] h n Q) (kf : s0 ≠ 0 → Rn d bc bs mX13_said 23 [some (vR r0), some (vI x1), some (vI x2)] [] h n Q) : Rn d (bc) (bs) mX13_said 20 [some (vR r0), some (vI x1), some (vI x2)] [vI s0] h n Q := by
  refine Rn_ifeq (tgt := 45) dX13_said_20 rfl ?_ ?_
  · exact kt
  · exact kf
theorem BX13_said_23 {d bc bs : Nat} {h : aH} {n : Nat} {Q : aQ} {r0 : Option Nat} {x1 x2 : Int} (k : Rn d 0 0 mX13_isIn 0 [some (vI x2), some (vI 0), some (vI 10)] [] h n (fun v h1 n1 => Rn (d + 1) bc bs mX13_said 30 [some (vR r0), some (vI x1), some (vI x2)] (v.toList ++ []) h1 n1 Q)) : Rn (d + 1) (bc) (bs) mX13_said 23 [some (vR r0), some (vI x1), some (vI x2)] [] h n Q := by
  refine Rn_iload_n dX13_said_23 rfl rfl ?_
  refine Rn_iconst dX13_said_24 rfl ?_
  refine Rn_bipush dX13_said_25 rfl ?_
  exact Rn_callS (avs := [vI x2, vI 0, vI 10]) (st := []) (bc1 := 0) (bs1 := 0) (bc2 := bc) (bs2 := bs) fx_X13_isIn dX13_said_27 (Or.inl wd_1463) wd_1464 rfl (Nat.le_of_ble_eq_true rfl) (Nat.le_of_ble_eq_true rfl) (by omega) (by omega) (ls1 := [some (vI x2), some (vI 0), some (vI 10)]) rfl k
theorem BX13_said_30 {d bc bs : Nat} {h : aH} {n : Nat} {Q : aQ} {r0 : Option Nat} {x1 x2 s0 : Int} (kt : s0 = 0 → Rn d bc bs mX13_said 45 [some (vR r0), some (vI x1), some (vI x2)] [] h n Q) (kf : s0 ≠ 0 → Rn d bc bs mX13_said 33 [some (vR r0), some (vI x1), some (vI x2)] [] h n Q) : Rn d (bc) (bs) mX13_said 30 [some (vR r0), some (vI x1), some (vI x2)] [vI s0] h n Q := by
  refine Rn_ifeq (tgt := 45) dX13_said_30 rfl ?_ ?_
  · exact kt
  · exact kf
theorem BX13_said_33 {d bc bs : Nat} {h : aH} {n : Nat} {Q : aQ} {ar0 at3 : Nat} {x1 x2 v7 : Int} {f1 : List aV} {w5 : List Int} (h2 : h ar0 = cO 13 f1) (g4 : f1[0]? = some (vR (some at3))) (h6 : h at3 = cI w5) (g8 : w5[(6 : Int).toNat]? = some v7) (kt : v7 ≠ 8 → Rn d bc bs mX13_said 48 [some (vR (some ar0)), some (vI x1), some (vI x2)] [] h n Q) (kf : v7 = 8 → Rn d bc bs mX13_said 45 [some (vR (some ar0)), some (vI x1), some (vI x2)] [] h n Q) : Rn d (bc) (bs) mX13_said 33 [some (vR (some ar0)), some (vI x1), some (vI x2)] [] h n Q := by
  refine Rn_aload_n dX13_said_33 rfl rfl rfl ?_
  refine Rn_getfield (ci := 13) (k := 0) dX13_said_34 rfl in_13 (Nat.le_of_ble_eq_true rfl) wd_1352 rfl h2 g4 ?_
  refine Rn_bipush dX13_said_37 rfl ?_
  refine Rn_iaload dX13_said_39 h6 (by decide) g8 ?_
  refine Rn_bipush dX13_said_40 rfl ?_
  refine Rn_icmpne (tgt := 48) dX13_said_42 rfl ?_ ?_
  · exact kt
  · exact kf
theorem BX13_said_45 {d bc bs : Nat} {h : aH} {n : Nat} {Q : aQ} {r0 : Option Nat} {x1 x2 : Int} (k : Q (some (vI (-2))) h n) : Rn d (bc) (bs) mX13_said 45 [some (vR r0), some (vI x1), some (vI x2)] [] h n Q := by
  refine Rn_bipush dX13_said_45 rfl ?_
  exact Rn_ireturn rfl dX13_said_47 k
theorem BX13_said_48 {d bc bs : Nat} {h : aH} {n : Nat} {Q : aQ} {ar0 at3 : Nat} {x1 x2 v7 : Int} {f1 : List aV} {w5 : List Int} (h2 : h ar0 = cO 13 f1) (g4 : f1[0]? = some (vR (some at3))) (h6 : h at3 = cI w5) (g8 : w5[(6 : Int).toNat]? = some v7) (b9 : -2147483648 ≤ 2 * v7 ∧ 2 * v7 < 2147483648) (b10 : -2147483648 ≤ 163 + (2 * v7) ∧ 163 + (2 * v7) < 2147483648) (i11 : 0 ≤ 163 + (2 * v7)) (j12 : 163 + (2 * v7) < w5.length) (z13 : at3 ≠ 0) (k : Rn d bc bs mX13_said 67 [some (vR (some ar0)), some (vI x1), some (vI x2)] [] (up h at3 (cI (w5.set (163 + (2 * v7) : Int).toNat x1))) n Q) : Rn d (bc) (bs) mX13_said 48 [some (vR (some ar0)), some (vI x1), some (vI x2)] [] h n Q := by
  refine Rn_aload_n dX13_said_48 rfl rfl rfl ?_
  refine Rn_getfield (ci := 13) (k := 0) dX13_said_49 rfl in_13 (Nat.le_of_ble_eq_true rfl) wd_1352 rfl h2 g4 ?_
  refine Rn_sipush dX13_said_52 rfl ?_
  refine Rn_iconst dX13_said_55 rfl ?_
  refine Rn_aload_n dX13_said_56 rfl rfl rfl ?_
  refine Rn_getfield (ci := 13) (k := 0) dX13_said_57 rfl in_13 (Nat.le_of_ble_eq_true rfl) wd_1352 rfl h2 g4 ?_
  refine Rn_bipush dX13_said_60 rfl ?_
  refine Rn_iaload dX13_said_62 h6 (by decide) g8 ?_
  refine Rn_imul dX13_said_63 ?_
  rw [w32_id b9.1 b9.2]
  refine Rn_iadd dX13_said_64 ?_
  rw [w32_id b10.1 b10.2]
  refine Rn_iload_n dX13_said_65 rfl rfl ?_
  refine Rn_iastore dX13_said_66 z13 h6 i11 j12 ?_
  exact k
theorem BX13_said_67 {d bc bs : Nat} {h : aH} {n : Nat} {Q : aQ} {ar0 at3 : Nat} {x1 x2 v7 : Int} {f1 : List aV} {w5 : List Int} (h2 : h ar0 = cO 13 f1) (g4 : f1[0]? = some (vR (some at3))) (h6 : h at3 = cI w5) (g8 : w5[(6 : Int).toNat]? = some v7) (b9 : -2147483648 ≤ 2 * v7 ∧ 2 * v7 < 2147483648) (b10 : -2147483648 ≤ 163 + (2 * v7) ∧ 163 + (2 * v7) < 2147483648) (b11 : -2147483648 ≤ (163 + (2 * v7)) + 1 ∧ (163 + (2 * v7)) + 1 < 2147483648) (i12 : 0 ≤ (163 + (2 * v7)) + 1) (j13 : (163 + (2 * v7)) + 1 < w5.length) (z14 : at3 ≠ 0) (k : Rn d bc bs mX13_said 88 [some (vR (some ar0)), some (vI x1), some (vI x2)] [] (up h at3 (cI (w5.set ((163 + (2 * v7)) + 1 : Int).toNat x2))) n Q) : Rn d (bc) (bs) mX13_said 67 [some (vR (some ar0)), some (vI x1), some (vI x2)] [] h n Q := by
  refine Rn_aload_n dX13_said_67 rfl rfl rfl ?_
  refine Rn_getfield (ci := 13) (k := 0) dX13_said_68 rfl in_13 (Nat.le_of_ble_eq_true rfl) wd_1352 rfl h2 g4 ?_
  refine Rn_sipush dX13_said_71 rfl ?_
  refine Rn_iconst dX13_said_74 rfl ?_
  refine Rn_aload_n dX13_said_75 rfl rfl rfl ?_
  refine Rn_getfield (ci := 13) (k := 0) dX13_said_76 rfl in_13 (Nat.le_of_ble_eq_true rfl) wd_1352 rfl h2 g4 ?_
  refine Rn_bipush dX13_said_79 rfl ?_
  refine Rn_iaload dX13_said_81 h6 (by decide) g8 ?_
  refine Rn_imul dX13_said_82 ?_
  rw [w32_id b9.1 b9.2]
  refine Rn_iadd dX13_said_83 ?_
  rw [w32_id b10.1 b10.2]
  refine Rn_iconst dX13_said_84 rfl ?_
  refine Rn_iadd dX13_said_85 ?_
  rw [w32_id b11.1 b11.2]
  refine Rn_iload_n dX13_said_86 rfl rfl ?_
  refine Rn_iastore dX13_said_87 z14 h6 i12 j13 ?_
  exact k
theorem BX13_said_88 {d bc bs : Nat} {h : aH} {n : Nat} {Q : aQ} {ar0 at3 : Nat} {x1 x2 v7 : Int} {f1 : List aV} {w5 : List Int} (h2 : h ar0 = cO 13 f1) (g4 : f1[0]? = some (vR (some at3))) (h6 : h at3 = cI w5) (g8 : w5[(6 : Int).toNat]? = some v7) (b9 : -2147483648 ≤ v7 + 1 ∧ v7 + 1 < 2147483648) (j10 : (6 : Int) < w5.length) (z11 : at3 ≠ 0) (k : Rn d bc bs mX13_said 99 [some (vR (some ar0)), some (vI x1), some (vI x2)] [] (up h at3 (cI (w5.set (6 : Int).toNat (v7 + 1)))) n Q) : Rn d (bc) (bs) mX13_said 88 [some (vR (some ar0)), some (vI x1), some (vI x2)] [] h n Q := by
  refine Rn_aload_n dX13_said_88 rfl rfl rfl ?_
  refine Rn_getfield (ci := 13) (k := 0) dX13_said_89 rfl in_13 (Nat.le_of_ble_eq_true rfl) wd_1352 rfl h2 g4 ?_
  refine Rn_bipush dX13_said_92 rfl ?_
  refine Rn_dup2 dX13_said_94 rfl rfl ?_
  refine Rn_iaload dX13_said_95 h6 (by decide) g8 ?_
  refine Rn_iconst dX13_said_96 rfl ?_
  refine Rn_iadd dX13_said_97 ?_
  rw [w32_id b9.1 b9.2]
  refine Rn_iastore dX13_said_98 z11 h6 (by decide) j10 ?_
  exact k
theorem BX13_said_99 {d bc bs : Nat} {h : aH} {n : Nat} {Q : aQ} {ar0 at3 : Nat} {x1 x2 v7 : Int} {f1 : List aV} {w5 : List Int} (h2 : h ar0 = cO 13 f1) (g4 : f1[0]? = some (vR (some at3))) (h6 : h at3 = cI w5) (g8 : w5[(6 : Int).toNat]? = some v7) (k : Q (some (vI v7)) h n) : Rn d (bc) (bs) mX13_said 99 [some (vR (some ar0)), some (vI x1), some (vI x2)] [] h n Q := by
  refine Rn_aload_n dX13_said_99 rfl rfl rfl ?_
  refine Rn_getfield (ci := 13) (k := 0) dX13_said_100 rfl in_13 (Nat.le_of_ble_eq_true rfl) wd_1352 rfl h2 g4 ?_
  refine Rn_bipush dX13_said_103 rfl ?_
  refine Rn_iaload dX13_said_105 h6 (by decide) g8 ?_
  exact Rn_ireturn rfl dX13_said_106 k
theorem dX13_whose_0 : decode cX13_whose 0 = .ok (.iconst 0, 1) := by decide +kernel
theorem dX13_whose_1 : decode cX13_whose 1 = .ok (.istore_n 1, 1) := by decide +kernel
theorem dX13_whose_2 : decode cX13_whose 2 = .ok (.iconst 0, 1) := by decide +kernel
theorem dX13_whose_3 : decode cX13_whose 3 = .ok (.istore_n 2, 1) := by decide +kernel
theorem dX13_whose_4 : decode cX13_whose 4 = .ok (.iload_n 2, 1) := by decide +kernel
theorem dX13_whose_5 : decode cX13_whose 5 = .ok (.aload_n 0, 1) := by decide +kernel
theorem dX13_whose_6 : decode cX13_whose 6 = .ok (.getfield 7, 3) := by decide +kernel
theorem dX13_whose_9 : decode cX13_whose 9 = .ok (.iconst 1, 1) := by decide +kernel
theorem dX13_whose_10 : decode cX13_whose 10 = .ok (.iaload, 1) := by decide +kernel
theorem dX13_whose_11 : decode cX13_whose 11 = .ok (.if_icmp .ge 102, 3) := by decide +kernel
theorem dX13_whose_14 : decode cX13_whose 14 = .ok (.iconst 1, 1) := by decide +kernel
theorem dX13_whose_15 : decode cX13_whose 15 = .ok (.istore_n 3, 1) := by decide +kernel
theorem dX13_whose_16 : decode cX13_whose 16 = .ok (.sipush 163, 3) := by decide +kernel
theorem dX13_whose_19 : decode cX13_whose 19 = .ok (.istore 4, 2) := by decide +kernel
theorem dX13_whose_21 : decode cX13_whose 21 = .ok (.iload 4, 2) := by decide +kernel
theorem dX13_whose_23 : decode cX13_whose 23 = .ok (.sipush 163, 3) := by decide +kernel
theorem dX13_whose_26 : decode cX13_whose 26 = .ok (.iconst 2, 1) := by decide +kernel
theorem dX13_whose_27 : decode cX13_whose 27 = .ok (.aload_n 0, 1) := by decide +kernel
theorem dX13_whose_28 : decode cX13_whose 28 = .ok (.getfield 7, 3) := by decide +kernel
theorem dX13_whose_31 : decode cX13_whose 31 = .ok (.bipush 6, 2) := by decide +kernel
theorem dX13_whose_33 : decode cX13_whose 33 = .ok (.iaload, 1) := by decide +kernel
theorem dX13_whose_34 : decode cX13_whose 34 = .ok (.imul, 1) := by decide +kernel
theorem dX13_whose_35 : decode cX13_whose 35 = .ok (.iadd, 1) := by decide +kernel
theorem dX13_whose_36 : decode cX13_whose 36 = .ok (.if_icmp .ge 57, 3) := by decide +kernel
theorem dX13_whose_39 : decode cX13_whose 39 = .ok (.iload_n 3, 1) := by decide +kernel
theorem dX13_whose_40 : decode cX13_whose 40 = .ok (.ifCond .eq 45, 3) := by decide +kernel
theorem dX13_whose_43 : decode cX13_whose 43 = .ok (.aload_n 0, 1) := by decide +kernel
theorem dX13_whose_44 : decode cX13_whose 44 = .ok (.aload_n 0, 1) := by decide +kernel
theorem dX13_whose_45 : decode cX13_whose 45 = .ok (.getfield 7, 3) := by decide +kernel
theorem dX13_whose_48 : decode cX13_whose 48 = .ok (.iload 4, 2) := by decide +kernel
theorem dX13_whose_50 : decode cX13_whose 50 = .ok (.iaload, 1) := by decide +kernel
theorem dX13_whose_51 : decode cX13_whose 51 = .ok (.invokevirtual 76, 3) := by decide +kernel
theorem dX13_whose_54 : decode cX13_whose 54 = .ok (.ifCond .eq 27, 3) := by decide +kernel
theorem dX13_whose_57 : decode cX13_whose 57 = .ok (.aload_n 0, 1) := by decide +kernel
theorem dX13_whose_58 : decode cX13_whose 58 = .ok (.iload_n 2, 1) := by decide +kernel
theorem dX13_whose_59 : decode cX13_whose 59 = .ok (.aload_n 0, 1) := by decide +kernel
theorem dX13_whose_60 : decode cX13_whose 60 = .ok (.getfield 7, 3) := by decide +kernel
theorem dX13_whose_63 : decode cX13_whose 63 = .ok (.iload 4, 2) := by decide +kernel
theorem dX13_whose_65 : decode cX13_whose 65 = .ok (.iaload, 1) := by decide +kernel
theorem dX13_whose_66 : decode cX13_whose 66 = .ok (.invokevirtual 334, 3) := by decide +kernel
theorem dX13_whose_69 : decode cX13_whose 69 = .ok (.aload_n 0, 1) := by decide +kernel
theorem dX13_whose_70 : decode cX13_whose 70 = .ok (.getfield 7, 3) := by decide +kernel
theorem dX13_whose_73 : decode cX13_whose 73 = .ok (.iload 4, 2) := by decide +kernel
theorem dX13_whose_75 : decode cX13_whose 75 = .ok (.iconst 1, 1) := by decide +kernel
theorem dX13_whose_76 : decode cX13_whose 76 = .ok (.iadd, 1) := by decide +kernel
theorem dX13_whose_77 : decode cX13_whose 77 = .ok (.iaload, 1) := by decide +kernel
theorem dX13_whose_78 : decode cX13_whose 78 = .ok (.if_icmp .ne 7, 3) := by decide +kernel
theorem dX13_whose_81 : decode cX13_whose 81 = .ok (.iconst 1, 1) := by decide +kernel
theorem dX13_whose_82 : decode cX13_whose 82 = .ok (.goto 4, 3) := by decide +kernel
theorem dX13_whose_85 : decode cX13_whose 85 = .ok (.iconst 0, 1) := by decide +kernel
theorem dX13_whose_86 : decode cX13_whose 86 = .ok (.istore_n 3, 1) := by decide +kernel
theorem dX13_whose_87 : decode cX13_whose 87 = .ok (.iinc 4 2, 3) := by decide +kernel
theorem dX13_whose_90 : decode cX13_whose 90 = .ok (.goto (-69), 3) := by decide +kernel
theorem dX13_whose_93 : decode cX13_whose 93 = .ok (.iload_n 1, 1) := by decide +kernel
theorem dX13_whose_94 : decode cX13_whose 94 = .ok (.iload_n 3, 1) := by decide +kernel
theorem dX13_whose_95 : decode cX13_whose 95 = .ok (.ifCond .eq 9, 3) := by decide +kernel
theorem dX13_whose_98 : decode cX13_whose 98 = .ok (.iconst 1, 1) := by decide +kernel
theorem dX13_whose_99 : decode cX13_whose 99 = .ok (.iload_n 2, 1) := by decide +kernel
theorem dX13_whose_100 : decode cX13_whose 100 = .ok (.ishl, 1) := by decide +kernel
theorem dX13_whose_101 : decode cX13_whose 101 = .ok (.goto 4, 3) := by decide +kernel
theorem dX13_whose_104 : decode cX13_whose 104 = .ok (.iconst 0, 1) := by decide +kernel
theorem dX13_whose_105 : decode cX13_whose 105 = .ok (.ior, 1) := by decide +kernel
theorem dX13_whose_106 : decode cX13_whose 106 = .ok (.istore_n 1, 1) := by decide +kernel
theorem dX13_whose_107 : decode cX13_whose 107 = .ok (.iinc 2 1, 3) := by decide +kernel
theorem dX13_whose_110 : decode cX13_whose 110 = .ok (.goto (-106), 3) := by decide +kernel
theorem dX13_whose_113 : decode cX13_whose 113 = .ok (.iload_n 1, 1) := by decide +kernel
theorem dX13_whose_114 : decode cX13_whose 114 = .ok (.ireturn, 1) := by decide +kernel
theorem BX13_whose_0 {d bc bs : Nat} {h : aH} {n : Nat} {Q : aQ} {r0 : Option Nat} {l1 l2 l3 l4 : Option aV} (k : Rn d bc bs mX13_whose 4 [some (vR r0), some (vI 0), some (vI 0), l3, l4] [] h n Q) : Rn d (bc) (bs) mX13_whose 0 [some (vR r0), l1, l2, l3, l4] [] h n Q := by
  refine Rn_iconst dX13_whose_0 rfl ?_
  refine Rn_istore_n dX13_whose_1 rfl (Nat.le_of_ble_eq_true rfl) rfl rfl ?_
  refine Rn_iconst dX13_whose_2 rfl ?_
  refine Rn_istore_n dX13_whose_3 rfl (Nat.le_of_ble_eq_true rfl) rfl rfl ?_
  exact k
theorem BX13_whose_4 {d bc bs : Nat} {h : aH} {n : Nat} {Q : aQ} {ar0 at3 : Nat} {x1 x2 v7 : Int} {l3 l4 : Option aV} {f1 : List aV} {w5 : List Int} (h2 : h ar0 = cO 13 f1) (g4 : f1[0]? = some (vR (some at3))) (h6 : h at3 = cI w5) (g8 : w5[(1 : Int).toNat]? = some v7) (kt : v7 ≤ x2 → Rn d bc bs mX13_whose 113 [some (vR (some ar0)), some (vI x1), some (vI x2), l3, l4] [] h n Q) (kf : x2 < v7 → Rn d bc bs mX13_whose 14 [some (vR (some ar0)), some (vI x1), some (vI x2), l3, l4] [] h n Q) : Rn d (bc) (bs) mX13_whose 4 [some (vR (some ar0)), some (vI x1), some (vI x2), l3, l4] [] h n Q := by
  refine Rn_iload_n dX13_whose_4 rfl rfl ?_
  refine Rn_aload_n dX13_whose_5 rfl rfl rfl ?_
  refine Rn_getfield (ci := 13) (k := 0) dX13_whose_6 rfl in_13 (Nat.le_of_ble_eq_true rfl) wd_1352 rfl h2 g4 ?_
  refine Rn_iconst dX13_whose_9 rfl ?_
  refine Rn_iaload dX13_whose_10 h6 (by decide) g8 ?_
  refine Rn_icmpge (tgt := 113) dX13_whose_11 rfl ?_ ?_
  · exact kt
  · exact kf
theorem BX13_whose_14 {d bc bs : Nat} {h : aH} {n : Nat} {Q : aQ} {r0 : Option Nat} {x1 x2 : Int} {l3 l4 : Option aV} (k : Rn d bc bs mX13_whose 21 [some (vR r0), some (vI x1), some (vI x2), some (vI 1), some (vI 163)] [] h n Q) : Rn d (bc) (bs) mX13_whose 14 [some (vR r0), some (vI x1), some (vI x2), l3, l4] [] h n Q := by
  refine Rn_iconst dX13_whose_14 rfl ?_
  refine Rn_istore_n dX13_whose_15 rfl (Nat.le_of_ble_eq_true rfl) rfl rfl ?_
  refine Rn_sipush dX13_whose_16 rfl ?_
  refine Rn_istore dX13_whose_19 (Nat.le_of_ble_eq_true rfl) rfl rfl ?_
  exact k
theorem BX13_whose_21 {d bc bs : Nat} {h : aH} {n : Nat} {Q : aQ} {ar0 at3 : Nat} {x1 x2 x3 x4 v7 : Int} {f1 : List aV} {w5 : List Int} (h2 : h ar0 = cO 13 f1) (g4 : f1[0]? = some (vR (some at3))) (h6 : h at3 = cI w5) (g8 : w5[(6 : Int).toNat]? = some v7) (b9 : -2147483648 ≤ 2 * v7 ∧ 2 * v7 < 2147483648) (b10 : -2147483648 ≤ 163 + (2 * v7) ∧ 163 + (2 * v7) < 2147483648) (kt : (163 + (2 * v7)) ≤ x4 → Rn d bc bs mX13_whose 93 [some (vR (some ar0)), some (vI x1), some (vI x2), some (vI x3), some (vI x4)] [] h n Q) (kf : x4 < (163 + (2 * v7)) → Rn d bc bs mX13_whose 39 [some (vR (some ar0)), some (vI x1), some (vI x2), some (vI x3), some (vI x4)] [] h n Q) : Rn d (bc) (bs) mX13_whose 21 [some (vR (some ar0)), some (vI x1), some (vI x2), some (vI x3), some (vI x4)] [] h n Q := by
  refine Rn_iload dX13_whose_21 rfl ?_
  refine Rn_sipush dX13_whose_23 rfl ?_
  refine Rn_iconst dX13_whose_26 rfl ?_
  refine Rn_aload_n dX13_whose_27 rfl rfl rfl ?_
  refine Rn_getfield (ci := 13) (k := 0) dX13_whose_28 rfl in_13 (Nat.le_of_ble_eq_true rfl) wd_1352 rfl h2 g4 ?_
  refine Rn_bipush dX13_whose_31 rfl ?_
  refine Rn_iaload dX13_whose_33 h6 (by decide) g8 ?_
  refine Rn_imul dX13_whose_34 ?_
  rw [w32_id b9.1 b9.2]
  refine Rn_iadd dX13_whose_35 ?_
  rw [w32_id b10.1 b10.2]
  refine Rn_icmpge (tgt := 93) dX13_whose_36 rfl ?_ ?_
  · exact kt
  · exact kf
theorem BX13_whose_39 {d bc bs : Nat} {h : aH} {n : Nat} {Q : aQ} {r0 : Option Nat} {x1 x2 x3 x4 : Int} (kt : x3 = 0 → Rn d bc bs mX13_whose 85 [some (vR r0), some (vI x1), some (vI x2), some (vI x3), some (vI x4)] [] h n Q) (kf : x3 ≠ 0 → Rn d bc bs mX13_whose 43 [some (vR r0), some (vI x1), some (vI x2), some (vI x3), some (vI x4)] [] h n Q) : Rn d (bc) (bs) mX13_whose 39 [some (vR r0), some (vI x1), some (vI x2), some (vI x3), some (vI x4)] [] h n Q := by
  refine Rn_iload_n dX13_whose_39 rfl rfl ?_
  refine Rn_ifeq (tgt := 85) dX13_whose_40 rfl ?_ ?_
  · exact kt
  · exact kf
theorem BX13_whose_43 {d bc bs : Nat} {h : aH} {n : Nat} {Q : aQ} {ar0 at3 : Nat} {x1 x2 x3 x4 v7 : Int} {f1 : List aV} {w5 : List Int} (h2 : h ar0 = cO 13 f1) (g4 : f1[0]? = some (vR (some at3))) (h6 : h at3 = cI w5) (i8 : 0 ≤ x4) (g9 : w5[(x4 : Int).toNat]? = some v7) (k : Rn d 0 0 mX13_isBottle 0 [some (vR (some ar0)), some (vI v7)] [] h n (fun v h1 n1 => Rn (d + 1) bc bs mX13_whose 54 [some (vR (some ar0)), some (vI x1), some (vI x2), some (vI x3), some (vI x4)] (v.toList ++ []) h1 n1 Q)) : Rn (d + 1) (bc) (bs) mX13_whose 43 [some (vR (some ar0)), some (vI x1), some (vI x2), some (vI x3), some (vI x4)] [] h n Q := by
  refine Rn_aload_n dX13_whose_43 rfl rfl rfl ?_
  refine Rn_aload_n dX13_whose_44 rfl rfl rfl ?_
  refine Rn_getfield (ci := 13) (k := 0) dX13_whose_45 rfl in_13 (Nat.le_of_ble_eq_true rfl) wd_1352 rfl h2 g4 ?_
  refine Rn_iload dX13_whose_48 rfl ?_
  refine Rn_iaload dX13_whose_50 h6 i8 g9 ?_
  exact Rn_callV (ci := 13) (avs := [vI v7]) (st := []) (bc1 := 0) (bs1 := 0) (bc2 := bc) (bs2 := bs) fx_X13_isBottle dX13_whose_51 wd_1678 wd_1680 wd_81 rfl h2 rfl (Nat.le_of_ble_eq_true rfl) (Nat.le_of_ble_eq_true rfl) (by omega) (by omega) (ls1 := [some (vR (some ar0)), some (vI v7)]) rfl k
theorem BX13_whose_54 {d bc bs : Nat} {h : aH} {n : Nat} {Q : aQ} {r0 : Option Nat} {x1 x2 x3 x4 s0 : Int} (kt : s0 = 0 → Rn d bc bs mX13_whose 81 [some (vR r0), some (vI x1), some (vI x2), some (vI x3), some (vI x4)] [] h n Q) (kf : s0 ≠ 0 → Rn d bc bs mX13_whose 57 [some (vR r0), some (vI x1), some (vI x2), some (vI x3), some (vI x4)] [] h n Q) : Rn d (bc) (bs) mX13_whose 54 [some (vR r0), some (vI x1), some (vI x2), some (vI x3), some (vI x4)] [vI s0] h n Q := by
  refine Rn_ifeq (tgt := 81) dX13_whose_54 rfl ?_ ?_
  · exact kt
  · exact kf
theorem BX13_whose_57 {d bc bs : Nat} {h : aH} {n : Nat} {Q : aQ} {ar0 at3 : Nat} {x1 x2 x3 x4 v7 : Int} {f1 : List aV} {w5 : List Int} (h2 : h ar0 = cO 13 f1) (g4 : f1[0]? = some (vR (some at3))) (h6 : h at3 = cI w5) (i8 : 0 ≤ x4) (g9 : w5[(x4 : Int).toNat]? = some v7) (k : Rn d 0 0 mX13_comesOf 0 [some (vR (some ar0)), some (vI x2), some (vI v7)] [] h n (fun v h1 n1 => Rn (d + 1) bc bs mX13_whose 69 [some (vR (some ar0)), some (vI x1), some (vI x2), some (vI x3), some (vI x4)] (v.toList ++ []) h1 n1 Q)) : Rn (d + 1) (bc) (bs) mX13_whose 57 [some (vR (some ar0)), some (vI x1), some (vI x2), some (vI x3), some (vI x4)] [] h n Q := by
  refine Rn_aload_n dX13_whose_57 rfl rfl rfl ?_
  refine Rn_iload_n dX13_whose_58 rfl rfl ?_
  refine Rn_aload_n dX13_whose_59 rfl rfl rfl ?_
  refine Rn_getfield (ci := 13) (k := 0) dX13_whose_60 rfl in_13 (Nat.le_of_ble_eq_true rfl) wd_1352 rfl h2 g4 ?_
  refine Rn_iload dX13_whose_63 rfl ?_
  refine Rn_iaload dX13_whose_65 h6 i8 g9 ?_
  exact Rn_callV (ci := 13) (avs := [vI x2, vI v7]) (st := []) (bc1 := 0) (bs1 := 0) (bc2 := bc) (bs2 := bs) fx_X13_comesOf dX13_whose_66 wd_1774 wd_1776 wd_98 rfl h2 rfl (Nat.le_of_ble_eq_true rfl) (Nat.le_of_ble_eq_true rfl) (by omega) (by omega) (ls1 := [some (vR (some ar0)), some (vI x2), some (vI v7)]) rfl k
theorem BX13_whose_69 {d bc bs : Nat} {h : aH} {n : Nat} {Q : aQ} {ar0 at3 : Nat} {x1 x2 x3 x4 s0 v8 : Int} {f1 : List aV} {w6 : List Int} (h2 : h ar0 = cO 13 f1) (g4 : f1[0]? = some (vR (some at3))) (b5 : -2147483648 ≤ x4 + 1 ∧ x4 + 1 < 2147483648) (h7 : h at3 = cI w6) (i9 : 0 ≤ x4 + 1) (g10 : w6[(x4 + 1 : Int).toNat]? = some v8) (kt : s0 ≠ v8 → Rn d bc bs mX13_whose 85 [some (vR (some ar0)), some (vI x1), some (vI x2), some (vI x3), some (vI x4)] [] h n Q) (kf : s0 = v8 → Rn d bc bs mX13_whose 81 [some (vR (some ar0)), some (vI x1), some (vI x2), some (vI x3), some (vI x4)] [] h n Q) : Rn d (bc) (bs) mX13_whose 69 [some (vR (some ar0)), some (vI x1), some (vI x2), some (vI x3), some (vI x4)] [vI s0] h n Q := by
  refine Rn_aload_n dX13_whose_69 rfl rfl rfl ?_
  refine Rn_getfield (ci := 13) (k := 0) dX13_whose_70 rfl in_13 (Nat.le_of_ble_eq_true rfl) wd_1352 rfl h2 g4 ?_
  refine Rn_iload dX13_whose_73 rfl ?_
  refine Rn_iconst dX13_whose_75 rfl ?_
  refine Rn_iadd dX13_whose_76 ?_
  rw [w32_id b5.1 b5.2]
  refine Rn_iaload dX13_whose_77 h7 i9 g10 ?_
  refine Rn_icmpne (tgt := 85) dX13_whose_78 rfl ?_ ?_
  · exact kt
  · exact kf
theorem BX13_whose_81 {d bc bs : Nat} {h : aH} {n : Nat} {Q : aQ} {r0 : Option Nat} {x1 x2 x3 x4 : Int} (b1 : -2147483648 ≤ x4 + 2 ∧ x4 + 2 < 2147483648) (k : Rn d bc bs mX13_whose 21 [some (vR r0), some (vI x1), some (vI x2), some (vI 1), some (vI (x4 + 2))] [] h n Q) : Rn d (bc) (bs) mX13_whose 81 [some (vR r0), some (vI x1), some (vI x2), some (vI x3), some (vI x4)] [] h n Q := by
  refine Rn_iconst dX13_whose_81 rfl ?_
  refine Rn_goto (tgt := 86) dX13_whose_82 rfl ?_
  refine Rn_istore_n dX13_whose_86 rfl (Nat.le_of_ble_eq_true rfl) rfl rfl ?_
  refine Rn_iinc dX13_whose_87 rfl (Nat.le_of_ble_eq_true rfl) rfl rfl rfl ?_
  rw [w32_id b1.1 b1.2]
  refine Rn_goto (tgt := 21) dX13_whose_90 rfl ?_
  exact k
theorem BX13_whose_85 {d bc bs : Nat} {h : aH} {n : Nat} {Q : aQ} {r0 : Option Nat} {x1 x2 x3 x4 : Int} (b1 : -2147483648 ≤ x4 + 2 ∧ x4 + 2 < 2147483648) (k : Rn d bc bs mX13_whose 21 [some (vR r0), some (vI x1), some (vI x2), some (vI 0), some (vI (x4 + 2))] [] h n Q) : Rn d (bc) (bs) mX13_whose 85 [some (vR r0), some (vI x1), some (vI x2), some (vI x3), some (vI x4)] [] h n Q := by
  refine Rn_iconst dX13_whose_85 rfl ?_
  refine Rn_istore_n dX13_whose_86 rfl (Nat.le_of_ble_eq_true rfl) rfl rfl ?_
  refine Rn_iinc dX13_whose_87 rfl (Nat.le_of_ble_eq_true rfl) rfl rfl rfl ?_
  rw [w32_id b1.1 b1.2]
  refine Rn_goto (tgt := 21) dX13_whose_90 rfl ?_
  exact k
theorem BX13_whose_93 {d bc bs : Nat} {h : aH} {n : Nat} {Q : aQ} {r0 : Option Nat} {x1 x2 x3 x4 : Int} (kt : x3 = 0 → Rn d bc bs mX13_whose 104 [some (vR r0), some (vI x1), some (vI x2), some (vI x3), some (vI x4)] [vI x1] h n Q) (kf : x3 ≠ 0 → Rn d bc bs mX13_whose 98 [some (vR r0), some (vI x1), some (vI x2), some (vI x3), some (vI x4)] [vI x1] h n Q) : Rn d (bc) (bs) mX13_whose 93 [some (vR r0), some (vI x1), some (vI x2), some (vI x3), some (vI x4)] [] h n Q := by
  refine Rn_iload_n dX13_whose_93 rfl rfl ?_
  refine Rn_iload_n dX13_whose_94 rfl rfl ?_
  refine Rn_ifeq (tgt := 104) dX13_whose_95 rfl ?_ ?_
  · exact kt
  · exact kf
theorem BX13_whose_98 {d bc bs : Nat} {h : aH} {n : Nat} {Q : aQ} {r0 : Option Nat} {x1 x2 x3 x4 s0 : Int} (b1 : -2147483648 ≤ x2 + 1 ∧ x2 + 1 < 2147483648) (k : Rn d bc bs mX13_whose 4 [some (vR r0), some (vI (or32 s0 (shl32 1 x2))), some (vI (x2 + 1)), some (vI x3), some (vI x4)] [] h n Q) : Rn d (bc) (bs) mX13_whose 98 [some (vR r0), some (vI x1), some (vI x2), some (vI x3), some (vI x4)] [vI s0] h n Q := by
  refine Rn_iconst dX13_whose_98 rfl ?_
  refine Rn_iload_n dX13_whose_99 rfl rfl ?_
  refine Rn_ishl dX13_whose_100 ?_
  refine Rn_goto (tgt := 105) dX13_whose_101 rfl ?_
  refine Rn_ior dX13_whose_105 ?_
  refine Rn_istore_n dX13_whose_106 rfl (Nat.le_of_ble_eq_true rfl) rfl rfl ?_
  refine Rn_iinc dX13_whose_107 rfl (Nat.le_of_ble_eq_true rfl) rfl rfl rfl ?_
  rw [w32_id b1.1 b1.2]
  refine Rn_goto (tgt := 4) dX13_whose_110 rfl ?_
  exact k
theorem BX13_whose_104 {d bc bs : Nat} {h : aH} {n : Nat} {Q : aQ} {r0 : Option Nat} {x1 x2 x3 x4 s0 : Int} (b1 : -2147483648 ≤ x2 + 1 ∧ x2 + 1 < 2147483648) (k : Rn d bc bs mX13_whose 4 [some (vR r0), some (vI (or32 s0 0)), some (vI (x2 + 1)), some (vI x3), some (vI x4)] [] h n Q) : Rn d (bc) (bs) mX13_whose 104 [some (vR r0), some (vI x1), some (vI x2), some (vI x3), some (vI x4)] [vI s0] h n Q := by
  refine Rn_iconst dX13_whose_104 rfl ?_
  refine Rn_ior dX13_whose_105 ?_
  refine Rn_istore_n dX13_whose_106 rfl (Nat.le_of_ble_eq_true rfl) rfl rfl ?_
  refine Rn_iinc dX13_whose_107 rfl (Nat.le_of_ble_eq_true rfl) rfl rfl rfl ?_
  rw [w32_id b1.1 b1.2]
  refine Rn_goto (tgt := 4) dX13_whose_110 rfl ?_
  exact k
theorem BX13_whose_113 {d bc bs : Nat} {h : aH} {n : Nat} {Q : aQ} {r0 : Option Nat} {x1 x2 : Int} {l3 l4 : Option aV} (k : Q (some (vI x1)) h n) : Rn d (bc) (bs) mX13_whose 113 [some (vR r0), some (vI x1), some (vI x2), l3, l4] [] h n Q := by
  refine Rn_iload_n dX13_whose_113 rfl rfl ?_
  exact Rn_ireturn rfl dX13_whose_114 k
theorem dX13_image_0 : decode cX13_image 0 = .ok (.aload_n 0, 1) := by decide +kernel
theorem dX13_image_1 : decode cX13_image 1 = .ok (.getfield 7, 3) := by decide +kernel
theorem dX13_image_4 : decode cX13_image 4 = .ok (.aload_n 0, 1) := by decide +kernel
theorem dX13_image_5 : decode cX13_image 5 = .ok (.getfield 13, 3) := by decide +kernel
theorem dX13_image_8 : decode cX13_image 8 = .ok (.invokestatic 68, 3) := by decide +kernel
theorem dX13_image_11 : decode cX13_image 11 = .ok (.aload_n 0, 1) := by decide +kernel
theorem dX13_image_12 : decode cX13_image 12 = .ok (.getfield 7, 3) := by decide +kernel
theorem dX13_image_15 : decode cX13_image 15 = .ok (.bipush 7, 2) := by decide +kernel
theorem dX13_image_17 : decode cX13_image 17 = .ok (.iaload, 1) := by decide +kernel
theorem dX13_image_18 : decode cX13_image 18 = .ok (.ireturn, 1) := by decide +kernel
theorem BX13_image_0 {d bc bs : Nat} {h : aH} {n : Nat} {Q : aQ} {ar0 : Nat} {f1 : List aV} {t3 t5 : Option Nat} (h2 : h ar0 = cO 13 f1) (g4 : f1[0]? = some (vR t3)) (g6 : f1[1]? = some (vR t5)) (k : Rn d 0 0 mX13_copy 0 [some (vR t3), some (vR t5), none] [] h n (fun v h1 n1 => Rn (d + 1) bc bs mX13_image 11 [some (vR (some ar0))] (v.toList ++ []) h1 n1 Q)) : Rn (d + 1) (bc) (bs) mX13_image 0 [some (vR (some ar0))] [] h n Q := by
  refine Rn_aload_n dX13_image_0 rfl rfl rfl ?_
  refine Rn_getfield (ci := 13) (k := 0) dX13_image_1 rfl in_13 (Nat.le_of_ble_eq_true rfl) wd_1352 rfl h2 g4 ?_
  refine Rn_aload_n dX13_image_4 rfl rfl rfl ?_
  refine Rn_getfield (ci := 13) (k := 1) dX13_image_5 rfl in_13 (Nat.le_of_ble_eq_true rfl) wd_1353 rfl h2 g6 ?_
  exact Rn_callS (avs := [vR t3, vR t5]) (st := []) (bc1 := 0) (bs1 := 0) (bc2 := bc) (bs2 := bs) fx_X13_copy dX13_image_8 (Or.inl wd_1349) wd_1350 rfl (Nat.le_of_ble_eq_true rfl) (Nat.le_of_ble_eq_true rfl) (by omega) (by omega) (ls1 := [some (vR t3), some (vR t5), none]) rfl k
theorem BX13_image_11 {d bc bs : Nat} {h : aH} {n : Nat} {Q : aQ} {ar0 at3 : Nat} {f1 : List aV} {w5 : List Int} {v7 : Int} (h2 : h ar0 = cO 13 f1) (g4 : f1[0]? = some (vR (some at3))) (h6 : h at3 = cI w5) (g8 : w5[(7 : Int).toNat]? = some v7) (k : Q (some (vI v7)) h n) : Rn d (bc) (bs) mX13_image 11 [some (vR (some ar0))] [] h n Q := by
  refine Rn_aload_n dX13_image_11 rfl rfl rfl ?_
  refine Rn_getfield (ci := 13) (k := 0) dX13_image_12 rfl in_13 (Nat.le_of_ble_eq_true rfl) wd_1352 rfl h2 g4 ?_
  refine Rn_bipush dX13_image_15 rfl ?_
  refine Rn_iaload dX13_image_17 h6 (by decide) g8 ?_
  exact Rn_ireturn rfl dX13_image_18 k
theorem dX13_back_0 : decode cX13_back 0 = .ok (.aload_n 0, 1) := by decide +kernel
theorem dX13_back_1 : decode cX13_back 1 = .ok (.getfield 13, 3) := by decide +kernel
theorem dX13_back_4 : decode cX13_back 4 = .ok (.aload_n 0, 1) := by decide +kernel
theorem dX13_back_5 : decode cX13_back 5 = .ok (.getfield 7, 3) := by decide +kernel
theorem dX13_back_8 : decode cX13_back 8 = .ok (.invokestatic 68, 3) := by decide +kernel
theorem dX13_back_11 : decode cX13_back 11 = .ok (.aload_n 0, 1) := by decide +kernel
theorem dX13_back_12 : decode cX13_back 12 = .ok (.getfield 7, 3) := by decide +kernel
theorem dX13_back_15 : decode cX13_back 15 = .ok (.bipush 7, 2) := by decide +kernel
theorem dX13_back_17 : decode cX13_back 17 = .ok (.iaload, 1) := by decide +kernel
theorem dX13_back_18 : decode cX13_back 18 = .ok (.ireturn, 1) := by decide +kernel
theorem BX13_back_0 {d bc bs : Nat} {h : aH} {n : Nat} {Q : aQ} {ar0 : Nat} {f1 : List aV} {t3 t5 : Option Nat} (h2 : h ar0 = cO 13 f1) (g4 : f1[1]? = some (vR t3)) (g6 : f1[0]? = some (vR t5)) (k : Rn d 0 0 mX13_copy 0 [some (vR t3), some (vR t5), none] [] h n (fun v h1 n1 => Rn (d + 1) bc bs mX13_back 11 [some (vR (some ar0))] (v.toList ++ []) h1 n1 Q)) : Rn (d + 1) (bc) (bs) mX13_back 0 [some (vR (some ar0))] [] h n Q := by
  refine Rn_aload_n dX13_back_0 rfl rfl rfl ?_
  refine Rn_getfield (ci := 13) (k := 1) dX13_back_1 rfl in_13 (Nat.le_of_ble_eq_true rfl) wd_1353 rfl h2 g4 ?_
  refine Rn_aload_n dX13_back_4 rfl rfl rfl ?_
  refine Rn_getfield (ci := 13) (k := 0) dX13_back_5 rfl in_13 (Nat.le_of_ble_eq_true rfl) wd_1352 rfl h2 g6 ?_
  exact Rn_callS (avs := [vR t3, vR t5]) (st := []) (bc1 := 0) (bs1 := 0) (bc2 := bc) (bs2 := bs) fx_X13_copy dX13_back_8 (Or.inl wd_1349) wd_1350 rfl (Nat.le_of_ble_eq_true rfl) (Nat.le_of_ble_eq_true rfl) (by omega) (by omega) (ls1 := [some (vR t3), some (vR t5), none]) rfl k
theorem BX13_back_11 {d bc bs : Nat} {h : aH} {n : Nat} {Q : aQ} {ar0 at3 : Nat} {f1 : List aV} {w5 : List Int} {v7 : Int} (h2 : h ar0 = cO 13 f1) (g4 : f1[0]? = some (vR (some at3))) (h6 : h at3 = cI w5) (g8 : w5[(7 : Int).toNat]? = some v7) (k : Q (some (vI v7)) h n) : Rn d (bc) (bs) mX13_back 11 [some (vR (some ar0))] [] h n Q := by
  refine Rn_aload_n dX13_back_11 rfl rfl rfl ?_
  refine Rn_getfield (ci := 13) (k := 0) dX13_back_12 rfl in_13 (Nat.le_of_ble_eq_true rfl) wd_1352 rfl h2 g4 ?_
  refine Rn_bipush dX13_back_15 rfl ?_
  refine Rn_iaload dX13_back_17 h6 (by decide) g8 ?_
  exact Rn_ireturn rfl dX13_back_18 k
theorem dX13_about_0 : decode cX13_about 0 = .ok (.iload_n 1, 1) := by decide +kernel
theorem dX13_about_1 : decode cX13_about 1 = .ok (.iconst 0, 1) := by decide +kernel
theorem dX13_about_2 : decode cX13_about 2 = .ok (.bipush 6, 2) := by decide +kernel
theorem dX13_about_4 : decode cX13_about 4 = .ok (.invokestatic 72, 3) := by decide +kernel
theorem dX13_about_7 : decode cX13_about 7 = .ok (.ifCond .eq 12, 3) := by decide +kernel
theorem dX13_about_10 : decode cX13_about 10 = .ok (.aload_n 0, 1) := by decide +kernel
theorem dX13_about_11 : decode cX13_about 11 = .ok (.getfield 7, 3) := by decide +kernel
theorem dX13_about_14 : decode cX13_about 14 = .ok (.iload_n 1, 1) := by decide +kernel
theorem dX13_about_15 : decode cX13_about 15 = .ok (.iaload, 1) := by decide +kernel
theorem dX13_about_16 : decode cX13_about 16 = .ok (.goto 18, 3) := by decide +kernel
theorem dX13_about_19 : decode cX13_about 19 = .ok (.iload_n 1, 1) := by decide +kernel
theorem dX13_about_20 : decode cX13_about 20 = .ok (.bipush 7, 2) := by decide +kernel
theorem dX13_about_22 : decode cX13_about 22 = .ok (.if_icmp .ne 10, 3) := by decide +kernel
theorem dX13_about_25 : decode cX13_about 25 = .ok (.aload_n 0, 1) := by decide +kernel
theorem dX13_about_26 : decode cX13_about 26 = .ok (.getfield 87, 3) := by decide +kernel
theorem dX13_about_29 : decode cX13_about 29 = .ok (.goto 5, 3) := by decide +kernel
theorem dX13_about_32 : decode cX13_about 32 = .ok (.bipush (-2), 2) := by decide +kernel
theorem dX13_about_34 : decode cX13_about 34 = .ok (.ireturn, 1) := by decide +kernel
theorem BX13_about_0 {d bc bs : Nat} {h : aH} {n : Nat} {Q : aQ} {r0 : Option Nat} {x1 : Int} (k : Rn d 0 0 mX13_isIn 0 [some (vI x1), some (vI 0), some (vI 6)] [] h n (fun v h1 n1 => Rn (d + 1) bc bs mX13_about 7 [some (vR r0), some (vI x1)] (v.toList ++ []) h1 n1 Q)) : Rn (d + 1) (bc) (bs) mX13_about 0 [some (vR r0), some (vI x1)] [] h n Q := by
  refine Rn_iload_n dX13_about_0 rfl rfl ?_
  refine Rn_iconst dX13_about_1 rfl ?_
  refine Rn_bipush dX13_about_2 rfl ?_
  exact Rn_callS (avs := [vI x1, vI 0, vI 6]) (st := []) (bc1 := 0) (bs1 := 0) (bc2 := bc) (bs2 := bs) fx_X13_isIn dX13_about_4 (Or.inl wd_1463) wd_1464 rfl (Nat.le_of_ble_eq_true rfl) (Nat.le_of_ble_eq_true rfl) (by omega) (by omega) (ls1 := [some (vI x1), some (vI 0), some (vI 6)]) rfl k
theorem BX13_about_7 {d bc bs : Nat} {h : aH} {n : Nat} {Q : aQ} {r0 : Option Nat} {x1 s0 : Int} (kt : s0 = 0 → Rn d bc bs mX13_about 19 [some (vR r0), some (vI x1)] [] h n Q) (kf : s0 ≠ 0 → Rn d bc bs mX13_about 10 [some (vR r0), some (vI x1)] [] h n Q) : Rn d (bc) (bs) mX13_about 7 [some (vR r0), some (vI x1)] [vI s0] h n Q := by
  refine Rn_ifeq (tgt := 19) dX13_about_7 rfl ?_ ?_
  · exact kt
  · exact kf
theorem BX13_about_10 {d bc bs : Nat} {h : aH} {n : Nat} {Q : aQ} {ar0 at3 : Nat} {x1 v7 : Int} {f1 : List aV} {w5 : List Int} (h2 : h ar0 = cO 13 f1) (g4 : f1[0]? = some (vR (some at3))) (h6 : h at3 = cI w5) (i8 : 0 ≤ x1) (g9 : w5[(x1 : Int).toNat]? = some v7) (k : Q (some (vI v7)) h n) : Rn d (bc) (bs) mX13_about 10 [some (vR (some ar0)), some (vI x1)] [] h n Q := by
  refine Rn_aload_n dX13_about_10 rfl rfl rfl ?_
  refine Rn_getfield (ci := 13) (k := 0) dX13_about_11 rfl in_13 (Nat.le_of_ble_eq_true rfl) wd_1352 rfl h2 g4 ?_
  refine Rn_iload_n dX13_about_14 rfl rfl ?_
  refine Rn_iaload dX13_about_15 h6 i8 g9 ?_
  refine Rn_goto (tgt := 34) dX13_about_16 rfl ?_
  exact Rn_ireturn rfl dX13_about_34 k
theorem BX13_about_19 {d bc bs : Nat} {h : aH} {n : Nat} {Q : aQ} {r0 : Option Nat} {x1 : Int} (kt : x1 ≠ 7 → Rn d bc bs mX13_about 32 [some (vR r0), some (vI x1)] [] h n Q) (kf : x1 = 7 → Rn d bc bs mX13_about 25 [some (vR r0), some (vI x1)] [] h n Q) : Rn d (bc) (bs) mX13_about 19 [some (vR r0), some (vI x1)] [] h n Q := by
  refine Rn_iload_n dX13_about_19 rfl rfl ?_
  refine Rn_bipush dX13_about_20 rfl ?_
  refine Rn_icmpne (tgt := 32) dX13_about_22 rfl ?_ ?_
  · exact kt
  · exact kf
theorem BX13_about_25 {d bc bs : Nat} {h : aH} {n : Nat} {Q : aQ} {ar0 : Nat} {x1 v3 : Int} {f1 : List aV} (h2 : h ar0 = cO 13 f1) (g4 : f1[4]? = some (vI v3)) (k : Q (some (vI v3)) h n) : Rn d (bc) (bs) mX13_about 25 [some (vR (some ar0)), some (vI x1)] [] h n Q := by
  refine Rn_aload_n dX13_about_25 rfl rfl rfl ?_
  refine Rn_getfield (ci := 13) (k := 4) dX13_about_26 rfl in_13 (Nat.le_of_ble_eq_true rfl) wd_1356 rfl h2 g4 ?_
  refine Rn_goto (tgt := 34) dX13_about_29 rfl ?_
  exact Rn_ireturn rfl dX13_about_34 k
theorem BX13_about_32 {d bc bs : Nat} {h : aH} {n : Nat} {Q : aQ} {r0 : Option Nat} {x1 : Int} (k : Q (some (vI (-2))) h n) : Rn d (bc) (bs) mX13_about 32 [some (vR r0), some (vI x1)] [] h n Q := by
  refine Rn_bipush dX13_about_32 rfl ?_
  exact Rn_ireturn rfl dX13_about_34 k
