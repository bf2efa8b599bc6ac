theorem dX0_init_0 : decode cX0_init 0 = .ok (.aload_n 0, 1) := by decide +kernel
theorem dX0_init_1 : decode cX0_init 1 = .ok (.invokespecial 3, 3) := by decide +kernel
theorem dX0_init_4 : decode cX0_init 4 = .ok (.aload_n 0, 1) := by decide +kernel
theorem dX0_init_5 : decode cX0_init 5 = .ok (.bipush 120, 2) := by decide +kernel
theorem dX0_init_7 : decode cX0_init 7 = .ok (.newarray .int, 2) := by decide +kernel
theorem dX0_init_9 : decode cX0_init 9 = .ok (.putfield 11, 3) := by decide +kernel
theorem dX0_init_12 : decode cX0_init 12 = .ok (.aload_n 0, 1) := by decide +kernel
theorem dX0_init_13 : decode cX0_init 13 = .ok (.iconst 0, 1) := by decide +kernel
theorem dX0_init_14 : decode cX0_init 14 = .ok (.putfield 15, 3) := by decide +kernel
theorem dX0_init_17 : decode cX0_init 17 = .ok (.return_, 1) := by decide +kernel
theorem BX0_init_0 {d bc bs : Nat} {h : aH} {n : Nat} {Q : aQ} {ar0 : Nat} (k : Rn (d + 1) bc bs mX0_init 9 [some (vR (some ar0))] [vR (some n), vR (some ar0)] (up h n (cI (List.replicate 120 0))) (n + 1) Q) : Rn (d + 1) (bc + 1) (bs + 120) mX0_init 0 [some (vR (some ar0))] [] h n Q := by
  refine Rn_aload_n dX0_init_0 rfl rfl rfl ?_
  refine Rn_objInit dX0_init_1 wd_193 wd_149 wd_150 (Nat.le_of_ble_eq_true rfl) ?_
  refine Rn_aload_n dX0_init_4 rfl rfl rfl ?_
  refine Rn_bipush dX0_init_5 rfl ?_
  refine Rn_newarrI (N := 120) (bc := bc) (bs := bs) (by omega) (by omega) wd_181 dX0_init_7 (by decide) ?_
  exact k
theorem BX0_init_9 {d bc bs : Nat} {h : aH} {n : Nat} {Q : aQ} {r0 q1 : Option Nat} {aq0 : Nat} {f1 : List aV} (h2 : h aq0 = cO 0 f1) (m3 : 0 < f1.length) (k : Rn d bc bs mX0_init 12 [some (vR r0)] [] (up h aq0 (cO 0 (f1.set 0 (vR q1)))) n Q) : Rn d (bc) (bs) mX0_init 9 [some (vR r0)] [vR q1, vR (some aq0)] h n Q := by
  refine Rn_putfield (ci := 0) (k := 0) dX0_init_9 rfl in_0 tyX0_ok nmX0 (Nat.le_of_ble_eq_true rfl) wd_194 rfl (Or.inr ⟨rfl, rfl⟩) trivial m3 h2 ?_
  exact k
theorem BX0_init_12 {d bc bs : Nat} {h : aH} {n : Nat} {Q : aQ} {ar0 : Nat} {f1 : List aV} (h2 : h ar0 = cO 0 f1) (m3 : 1 < f1.length) (k : Rn d bc bs mX0_init 17 [some (vR (some ar0))] [] (up h ar0 (cO 0 (f1.set 1 (vI 0)))) n Q) : Rn d (bc) (bs) mX0_init 12 [some (vR (some ar0))] [] h n Q := by
  refine Rn_aload_n dX0_init_12 rfl rfl rfl ?_
  refine Rn_iconst dX0_init_13 rfl ?_
  refine Rn_putfield (ci := 0) (k := 1) dX0_init_14 rfl in_0 tyX0_ok nmX0 (Nat.le_of_ble_eq_true rfl) wd_195 rfl (Or.inl rfl) trivial m3 h2 ?_
  exact k
theorem BX0_init_17 {d bc bs : Nat} {h : aH} {n : Nat} {Q : aQ} {r0 : Option Nat} (k : Q none h n) : Rn d (bc) (bs) mX0_init 17 [some (vR r0)] [] h n Q := by
  exact Rn_return rfl dX0_init_17 k
theorem dX0_copyFrom_0 : decode cX0_copyFrom 0 = .ok (.aload_n 1, 1) := by decide +kernel
theorem dX0_copyFrom_1 : decode cX0_copyFrom 1 = .ok (.getfield 11, 3) := by decide +kernel
theorem dX0_copyFrom_4 : decode cX0_copyFrom 4 = .ok (.aload_n 0, 1) := by decide +kernel
theorem dX0_copyFrom_5 : decode cX0_copyFrom 5 = .ok (.getfield 11, 3) := by decide +kernel
theorem dX0_copyFrom_8 : decode cX0_copyFrom 8 = .ok (.invokestatic 19, 3) := by decide +kernel
theorem dX0_copyFrom_11 : decode cX0_copyFrom 11 = .ok (.aload_n 0, 1) := by decide +kernel
theorem dX0_copyFrom_12 : decode cX0_copyFrom 12 = .ok (.aload_n 1, 1) := by decide +kernel
theorem dX0_copyFrom_13 : decode cX0_copyFrom 13 = .ok (.getfield 15, 3) := by decide +kernel
theorem dX0_copyFrom_16 : decode cX0_copyFrom 16 = .ok (.putfield 15, 3) := by decide +kernel
theorem dX0_copyFrom_19 : decode cX0_copyFrom 19 = .ok (.return_, 1) := by decide +kernel
theorem BX0_copyFrom_0 {d bc bs : Nat} {h : aH} {n : Nat} {Q : aQ} {ar0 ar1 : Nat} {f1 f5 : List aV} {t3 t7 : Option Nat} (h2 : h ar1 = cO 0 f1) (g4 : f1[0]? = some (vR t3)) (h6 : h ar0 = cO 0 f5) (g8 : f5[0]? = some (vR t7)) (k : Rn d 0 0 mX12_copyRow 0 [some (vR t3), some (vR t7)] [] h n (fun v h1 n1 => Rn (d + 1) bc bs mX0_copyFrom 11 [some (vR (some ar0)), some (vR (some ar1))] (v.toList ++ []) h1 n1 Q)) : Rn (d + 1) (bc) (bs) mX0_copyFrom 0 [some (vR (some ar0)), some (vR (some ar1))] [] h n Q := by
  refine Rn_aload_n dX0_copyFrom_0 rfl rfl rfl ?_
  refine Rn_getfield (ci := 0) (k := 0) dX0_copyFrom_1 rfl in_0 (Nat.le_of_ble_eq_true rfl) wd_194 rfl h2 g4 ?_
  refine Rn_aload_n dX0_copyFrom_4 rfl rfl rfl ?_
  refine Rn_getfield (ci := 0) (k := 0) dX0_copyFrom_5 rfl in_0 (Nat.le_of_ble_eq_true rfl) wd_194 rfl h6 g8 ?_
  exact Rn_callS (avs := [vR t3, vR t7]) (st := []) (bc1 := 0) (bs1 := 0) (bc2 := bc) (bs2 := bs) fx_X12_copyRow dX0_copyFrom_8 (Or.inr ⟨"BottledPost", List.mem_of_getElem? (i := 18) rfl⟩) wd_802 rfl (Nat.le_of_ble_eq_true rfl) (Nat.le_of_ble_eq_true rfl) (by omega) (by omega) (ls1 := [some (vR t3), some (vR t7)]) rfl k
theorem BX0_copyFrom_11 {d bc bs : Nat} {h : aH} {n : Nat} {Q : aQ} {ar0 ar1 : Nat} {f1 f5 : List aV} {v3 : Int} (h2 : h ar1 = cO 0 f1) (g4 : f1[1]? = some (vI v3)) (h6 : h ar0 = cO 0 f5) (m7 : 1 < f5.length) (k : Rn d bc bs mX0_copyFrom 19 [some (vR (some ar0)), some (vR (some ar1))] [] (up h ar0 (cO 0 (f5.set 1 (vI v3)))) n Q) : Rn d (bc) (bs) mX0_copyFrom 11 [some (vR (some ar0)), some (vR (some ar1))] [] h n Q := by
  refine Rn_aload_n dX0_copyFrom_11 rfl rfl rfl ?_
  refine Rn_aload_n dX0_copyFrom_12 rfl rfl rfl ?_
  refine Rn_getfield (ci := 0) (k := 1) dX0_copyFrom_13 rfl in_0 (Nat.le_of_ble_eq_true rfl) wd_195 rfl h2 g4 ?_
  refine Rn_putfield (ci := 0) (k := 1) dX0_copyFrom_16 rfl in_0 tyX0_ok nmX0 (Nat.le_of_ble_eq_true rfl) wd_195 rfl (Or.inl rfl) trivial m7 h6 ?_
  exact k
theorem BX0_copyFrom_19 {d bc bs : Nat} {h : aH} {n : Nat} {Q : aQ} {r0 r1 : Option Nat} (k : Q none h n) : Rn d (bc) (bs) mX0_copyFrom 19 [some (vR r0), some (vR r1)] [] h n Q := by
  exact Rn_return rfl dX0_copyFrom_19 k
theorem dX0_addLine_0 : decode cX0_addLine 0 = .ok (.aload_n 0, 1) := by decide +kernel
theorem dX0_addLine_1 : decode cX0_addLine 1 = .ok (.getfield 15, 3) := by decide +kernel
theorem dX0_addLine_4 : decode cX0_addLine 4 = .ok (.bipush 30, 2) := by decide +kernel
theorem dX0_addLine_6 : decode cX0_addLine 6 = .ok (.if_icmp .lt 29, 3) := by decide +kernel
theorem dX0_addLine_9 : decode cX0_addLine 9 = .ok (.aload_n 0, 1) := by decide +kernel
theorem dX0_addLine_10 : decode cX0_addLine 10 = .ok (.getfield 11, 3) := by decide +kernel
theorem dX0_addLine_13 : decode cX0_addLine 13 = .ok (.iconst 4, 1) := by decide +kernel
theorem dX0_addLine_14 : decode cX0_addLine 14 = .ok (.aload_n 0, 1) := by decide +kernel
theorem dX0_addLine_15 : decode cX0_addLine 15 = .ok (.getfield 11, 3) := by decide +kernel
theorem dX0_addLine_18 : decode cX0_addLine 18 = .ok (.iconst 0, 1) := by decide +kernel
theorem dX0_addLine_19 : decode cX0_addLine 19 = .ok (.aload_n 0, 1) := by decide +kernel
theorem dX0_addLine_20 : decode cX0_addLine 20 = .ok (.getfield 11, 3) := by decide +kernel
theorem dX0_addLine_23 : decode cX0_addLine 23 = .ok (.arraylength, 1) := by decide +kernel
theorem dX0_addLine_24 : decode cX0_addLine 24 = .ok (.iconst 4, 1) := by decide +kernel
theorem dX0_addLine_25 : decode cX0_addLine 25 = .ok (.isub, 1) := by decide +kernel
theorem dX0_addLine_26 : decode cX0_addLine 26 = .ok (.invokestatic 23, 3) := by decide +kernel
theorem dX0_addLine_29 : decode cX0_addLine 29 = .ok (.aload_n 0, 1) := by decide +kernel
theorem dX0_addLine_30 : decode cX0_addLine 30 = .ok (.bipush 29, 2) := by decide +kernel
theorem dX0_addLine_32 : decode cX0_addLine 32 = .ok (.putfield 15, 3) := by decide +kernel
theorem dX0_addLine_35 : decode cX0_addLine 35 = .ok (.aload_n 0, 1) := by decide +kernel
theorem dX0_addLine_36 : decode cX0_addLine 36 = .ok (.getfield 15, 3) := by decide +kernel
theorem dX0_addLine_39 : decode cX0_addLine 39 = .ok (.iconst 4, 1) := by decide +kernel
theorem dX0_addLine_40 : decode cX0_addLine 40 = .ok (.imul, 1) := by decide +kernel
theorem dX0_addLine_41 : decode cX0_addLine 41 = .ok (.istore 5, 2) := by decide +kernel
theorem dX0_addLine_43 : decode cX0_addLine 43 = .ok (.iload 5, 2) := by decide +kernel
theorem dX0_addLine_45 : decode cX0_addLine 45 = .ok (.ifCond .lt 15, 3) := by decide +kernel
theorem dX0_addLine_48 : decode cX0_addLine 48 = .ok (.iload 5, 2) := by decide +kernel
theorem dX0_addLine_50 : decode cX0_addLine 50 = .ok (.iconst 3, 1) := by decide +kernel
theorem dX0_addLine_51 : decode cX0_addLine 51 = .ok (.iadd, 1) := by decide +kernel
theorem dX0_addLine_52 : decode cX0_addLine 52 = .ok (.aload_n 0, 1) := by decide +kernel
theorem dX0_addLine_53 : decode cX0_addLine 53 = .ok (.getfield 11, 3) := by decide +kernel
theorem dX0_addLine_56 : decode cX0_addLine 56 = .ok (.arraylength, 1) := by decide +kernel
theorem dX0_addLine_57 : decode cX0_addLine 57 = .ok (.if_icmp .lt 4, 3) := by decide +kernel
theorem dX0_addLine_60 : decode cX0_addLine 60 = .ok (.return_, 1) := by decide +kernel
theorem dX0_addLine_61 : decode cX0_addLine 61 = .ok (.aload_n 0, 1) := by decide +kernel
theorem dX0_addLine_62 : decode cX0_addLine 62 = .ok (.getfield 11, 3) := by decide +kernel
theorem dX0_addLine_65 : decode cX0_addLine 65 = .ok (.iload 5, 2) := by decide +kernel
theorem dX0_addLine_67 : decode cX0_addLine 67 = .ok (.iload_n 1, 1) := by decide +kernel
theorem dX0_addLine_68 : decode cX0_addLine 68 = .ok (.iastore, 1) := by decide +kernel
theorem dX0_addLine_69 : decode cX0_addLine 69 = .ok (.aload_n 0, 1) := by decide +kernel
theorem dX0_addLine_70 : decode cX0_addLine 70 = .ok (.getfield 11, 3) := by decide +kernel
theorem dX0_addLine_73 : decode cX0_addLine 73 = .ok (.iload 5, 2) := by decide +kernel
theorem dX0_addLine_75 : decode cX0_addLine 75 = .ok (.iconst 1, 1) := by decide +kernel
theorem dX0_addLine_76 : decode cX0_addLine 76 = .ok (.iadd, 1) := by decide +kernel
theorem dX0_addLine_77 : decode cX0_addLine 77 = .ok (.iload_n 2, 1) := by decide +kernel
theorem dX0_addLine_78 : decode cX0_addLine 78 = .ok (.iastore, 1) := by decide +kernel
theorem dX0_addLine_79 : decode cX0_addLine 79 = .ok (.aload_n 0, 1) := by decide +kernel
theorem dX0_addLine_80 : decode cX0_addLine 80 = .ok (.getfield 11, 3) := by decide +kernel
theorem dX0_addLine_83 : decode cX0_addLine 83 = .ok (.iload 5, 2) := by decide +kernel
theorem dX0_addLine_85 : decode cX0_addLine 85 = .ok (.iconst 2, 1) := by decide +kernel
theorem dX0_addLine_86 : decode cX0_addLine 86 = .ok (.iadd, 1) := by decide +kernel
theorem dX0_addLine_87 : decode cX0_addLine 87 = .ok (.iload_n 3, 1) := by decide +kernel
theorem dX0_addLine_88 : decode cX0_addLine 88 = .ok (.iastore, 1) := by decide +kernel
theorem dX0_addLine_89 : decode cX0_addLine 89 = .ok (.aload_n 0, 1) := by decide +kernel
theorem dX0_addLine_90 : decode cX0_addLine 90 = .ok (.getfield 11, 3) := by decide +kernel
theorem dX0_addLine_93 : decode cX0_addLine 93 = .ok (.iload 5, 2) := by decide +kernel
theorem dX0_addLine_95 : decode cX0_addLine 95 = .ok (.iconst 3, 1) := by decide +kernel
theorem dX0_addLine_96 : decode cX0_addLine 96 = .ok (.iadd, 1) := by decide +kernel
theorem dX0_addLine_97 : decode cX0_addLine 97 = .ok (.iload 4, 2) := by decide +kernel
theorem dX0_addLine_99 : decode cX0_addLine 99 = .ok (.iastore, 1) := by decide +kernel
theorem dX0_addLine_100 : decode cX0_addLine 100 = .ok (.aload_n 0, 1) := by decide +kernel
theorem dX0_addLine_101 : decode cX0_addLine 101 = .ok (.dup, 1) := by decide +kernel
theorem dX0_addLine_102 : decode cX0_addLine 102 = .ok (.getfield 15, 3) := by decide +kernel
theorem dX0_addLine_105 : decode cX0_addLine 105 = .ok (.iconst 1, 1) := by decide +kernel
theorem dX0_addLine_106 : decode cX0_addLine 106 = .ok (.iadd, 1) := by decide +kernel
theorem dX0_addLine_107 : decode cX0_addLine 107 = .ok (.putfield 15, 3) := by decide +kernel
theorem dX0_addLine_110 : decode cX0_addLine 110 = .ok (.return_, 1) := by decide +kernel
theorem BX0_addLine_0 {d bc bs : Nat} {h : aH} {n : Nat} {Q : aQ} {ar0 : Nat} {x1 x2 x3 x4 v3 : Int} {l5 : Option aV} {f1 : List aV} (h2 : h ar0 = cO 0 f1) (g4 : f1[1]? = some (vI v3)) (kt : v3 < 30 → Rn d bc bs mX0_addLine 35 [some (vR (some ar0)), some (vI x1), some (vI x2), some (vI x3), some (vI x4), l5] [] h n Q) (kf : 30 ≤ v3 → Rn d bc bs mX0_addLine 9 [some (vR (some ar0)), some (vI x1), some (vI x2), some (vI x3), some (vI x4), l5] [] h n Q) : Rn d (bc) (bs) mX0_addLine 0 [some (vR (some ar0)), some (vI x1), some (vI x2), some (vI x3), some (vI x4), l5] [] h n Q := by
  refine Rn_aload_n dX0_addLine_0 rfl rfl rfl ?_
  refine Rn_getfield (ci := 0) (k := 1) dX0_addLine_1 rfl in_0 (Nat.le_of_ble_eq_true rfl) wd_195 rfl h2 g4 ?_
  refine Rn_bipush dX0_addLine_4 rfl ?_
  refine Rn_icmplt (tgt := 35) dX0_addLine_6 rfl ?_ ?_
  · exact kt
  · exact kf
theorem BX0_addLine_9 {d bc bs : Nat} {h : aH} {n : Nat} {Q : aQ} {ar0 at3 : Nat} {x1 x2 x3 x4 : Int} {l5 : Option aV} {f1 : List aV} {w5 : List Int} (h2 : h ar0 = cO 0 f1) (g4 : f1[0]? = some (vR (some at3))) (h6 : h at3 = cI w5) (y7 : w5.length < 2147483648) (z8 : at3 ≠ 0) (b9 : -2147483648 ≤ (w5.length : Int) - 4 ∧ (w5.length : Int) - 4 < 2147483648) (i10 : 0 ≤ (w5.length : Int) - 4) (j11 : 4 + ((w5.length : Int) - 4) ≤ w5.length) (j12 : 0 + ((w5.length : Int) - 4) ≤ w5.length) (k : Rn (d + 1) bc bs mX0_addLine 29 [some (vR (some ar0)), some (vI x1), some (vI x2), some (vI x3), some (vI x4), l5] [] (up h at3 (cI (aCpy w5 w5 (4 : Int).toNat (0 : Int).toNat ((w5.length : Int) - 4 : Int).toNat))) n Q) : Rn (d + 1) (bc) (bs) mX0_addLine 9 [some (vR (some ar0)), some (vI x1), some (vI x2), some (vI x3), some (vI x4), l5] [] h n Q := by
  refine Rn_aload_n dX0_addLine_9 rfl rfl rfl ?_
  refine Rn_getfield (ci := 0) (k := 0) dX0_addLine_10 rfl in_0 (Nat.le_of_ble_eq_true rfl) wd_194 rfl h2 g4 ?_
  refine Rn_iconst dX0_addLine_13 rfl ?_
  refine Rn_aload_n dX0_addLine_14 rfl rfl rfl ?_
  refine Rn_getfield (ci := 0) (k := 0) dX0_addLine_15 rfl in_0 (Nat.le_of_ble_eq_true rfl) wd_194 rfl h2 g4 ?_
  refine Rn_iconst dX0_addLine_18 rfl ?_
  refine Rn_aload_n dX0_addLine_19 rfl rfl rfl ?_
  refine Rn_getfield (ci := 0) (k := 0) dX0_addLine_20 rfl in_0 (Nat.le_of_ble_eq_true rfl) wd_194 rfl h2 g4 ?_
  refine Rn_alenI dX0_addLine_23 z8 h6 y7 ?_
  refine Rn_iconst dX0_addLine_24 rfl ?_
  refine Rn_isub dX0_addLine_25 ?_
  rw [w32_id b9.1 b9.2]
  refine Rn_arraycopy dX0_addLine_26 wd_853 wd_732 wd_731 wd_141 z8 z8 h6 h6 (by decide) (by decide) i10 j11 j12 (Nat.le_of_ble_eq_true rfl) ?_
  exact k
theorem BX0_addLine_29 {d bc bs : Nat} {h : aH} {n : Nat} {Q : aQ} {ar0 : Nat} {x1 x2 x3 x4 : Int} {l5 : Option aV} {f1 : List aV} (h2 : h ar0 = cO 0 f1) (m3 : 1 < f1.length) (k : Rn d bc bs mX0_addLine 35 [some (vR (some ar0)), some (vI x1), some (vI x2), some (vI x3), some (vI x4), l5] [] (up h ar0 (cO 0 (f1.set 1 (vI 29)))) n Q) : Rn d (bc) (bs) mX0_addLine 29 [some (vR (some ar0)), some (vI x1), some (vI x2), some (vI x3), some (vI x4), l5] [] h n Q := by
  refine Rn_aload_n dX0_addLine_29 rfl rfl rfl ?_
  refine Rn_bipush dX0_addLine_30 rfl ?_
  refine Rn_putfield (ci := 0) (k := 1) dX0_addLine_32 rfl in_0 tyX0_ok nmX0 (Nat.le_of_ble_eq_true rfl) wd_195 rfl (Or.inl rfl) trivial m3 h2 ?_
  exact k
theorem BX0_addLine_35 {d bc bs : Nat} {h : aH} {n : Nat} {Q : aQ} {ar0 : Nat} {x1 x2 x3 x4 v3 : Int} {l5 : Option aV} {f1 : List aV} (h2 : h ar0 = cO 0 f1) (g4 : f1[1]? = some (vI v3)) (b5 : -2147483648 ≤ v3 * 4 ∧ v3 * 4 < 2147483648) (kt : (v3 * 4) < 0 → Rn d bc bs mX0_addLine 60 [some (vR (some ar0)), some (vI x1), some (vI x2), some (vI x3), some (vI x4), some (vI (v3 * 4))] [] h n Q) (kf : 0 ≤ (v3 * 4) → Rn d bc bs mX0_addLine 48 [some (vR (some ar0)), some (vI x1), some (vI x2), some (vI x3), some (vI x4), some (vI (v3 * 4))] [] h n Q) : Rn d (bc) (bs) mX0_addLine 35 [some (vR (some ar0)), some (vI x1), some (vI x2), some (vI x3), some (vI x4), l5] [] h n Q := by
  refine Rn_aload_n dX0_addLine_35 rfl rfl rfl ?_
  refine Rn_getfield (ci := 0) (k := 1) dX0_addLine_36 rfl in_0 (Nat.le_of_ble_eq_true rfl) wd_195 rfl h2 g4 ?_
  refine Rn_iconst dX0_addLine_39 rfl ?_
  refine Rn_imul dX0_addLine_40 ?_
  rw [w32_id b5.1 b5.2]
  refine Rn_istore dX0_addLine_41 (Nat.le_of_ble_eq_true rfl) rfl rfl ?_
  refine Rn_iload dX0_addLine_43 rfl ?_
  refine Rn_iflt (tgt := 60) dX0_addLine_45 rfl ?_ ?_
  · exact kt
  · exact kf
theorem BX0_addLine_48 {d bc bs : Nat} {h : aH} {n : Nat} {Q : aQ} {ar0 at4 : Nat} {x1 x2 x3 x4 x5 : Int} {f2 : List aV} {w6 : List Int} (b1 : -2147483648 ≤ x5 + 3 ∧ x5 + 3 < 2147483648) (h3 : h ar0 = cO 0 f2) (g5 : f2[0]? = some (vR (some at4))) (h7 : h at4 = cI w6) (y8 : w6.length < 2147483648) (z9 : at4 ≠ 0) (kt : (x5 + 3) < (w6.length : Int) → Rn d bc bs mX0_addLine 61 [some (vR (some ar0)), some (vI x1), some (vI x2), some (vI x3), some (vI x4), some (vI x5)] [] h n Q) (kf : (w6.length : Int) ≤ (x5 + 3) → Rn d bc bs mX0_addLine 60 [some (vR (some ar0)), some (vI x1), some (vI x2), some (vI x3), some (vI x4), some (vI x5)] [] h n Q) : Rn d (bc) (bs) mX0_addLine 48 [some (vR (some ar0)), some (vI x1), some (vI x2), some (vI x3), some (vI x4), some (vI x5)] [] h n Q := by
  refine Rn_iload dX0_addLine_48 rfl ?_
  refine Rn_iconst dX0_addLine_50 rfl ?_
  refine Rn_iadd dX0_addLine_51 ?_
  rw [w32_id b1.1 b1.2]
  refine Rn_aload_n dX0_addLine_52 rfl rfl rfl ?_
  refine Rn_getfield (ci := 0) (k := 0) dX0_addLine_53 rfl in_0 (Nat.le_of_ble_eq_true rfl) wd_194 rfl h3 g5 ?_
  refine Rn_alenI dX0_addLine_56 z9 h7 y8 ?_
  refine Rn_icmplt (tgt := 61) dX0_addLine_57 rfl ?_ ?_
  · exact kt
  · exact kf
theorem BX0_addLine_60 {d bc bs : Nat} {h : aH} {n : Nat} {Q : aQ} {r0 : Option Nat} {x1 x2 x3 x4 x5 : Int} (k : Q none h n) : Rn d (bc) (bs) mX0_addLine 60 [some (vR r0), some (vI x1), some (vI x2), some (vI x3), some (vI x4), some (vI x5)] [] h n Q := by
  exact Rn_return rfl dX0_addLine_60 k
theorem BX0_addLine_61 {d bc bs : Nat} {h : aH} {n : Nat} {Q : aQ} {ar0 at3 : Nat} {x1 x2 x3 x4 x5 : Int} {f1 : List aV} {w5 : List Int} (h2 : h ar0 = cO 0 f1) (g4 : f1[0]? = some (vR (some at3))) (h6 : h at3 = cI w5) (i7 : 0 ≤ x5) (j8 : x5 < w5.length) (z9 : at3 ≠ 0) (k : Rn d bc bs mX0_addLine 69 [some (vR (some ar0)), some (vI x1), some (vI x2), some (vI x3), some (vI x4), some (vI x5)] [] (up h at3 (cI (w5.set (x5 : Int).toNat x1))) n Q) : Rn d (bc) (bs) mX0_addLine 61 [some (vR (some ar0)), some (vI x1), some (vI x2), some (vI x3), some (vI x4), some (vI x5)] [] h n Q := by
  refine Rn_aload_n dX0_addLine_61 rfl rfl rfl ?_
  refine Rn_getfield (ci := 0) (k := 0) dX0_addLine_62 rfl in_0 (Nat.le_of_ble_eq_true rfl) wd_194 rfl h2 g4 ?_
  refine Rn_iload dX0_addLine_65 rfl ?_
  refine Rn_iload_n dX0_addLine_67 rfl rfl ?_
  refine Rn_iastore dX0_addLine_68 z9 h6 i7 j8 ?_
  exact k
theorem BX0_addLine_69 {d bc bs : Nat} {h : aH} {n : Nat} {Q : aQ} {ar0 at3 : Nat} {x1 x2 x3 x4 x5 : Int} {f1 : List aV} {w6 : List Int} (h2 : h ar0 = cO 0 f1) (g4 : f1[0]? = some (vR (some at3))) (b5 : -2147483648 ≤ x5 + 1 ∧ x5 + 1 < 2147483648) (h7 : h at3 = cI w6) (i8 : 0 ≤ x5 + 1) (j9 : x5 + 1 < w6.length) (z10 : at3 ≠ 0) (k : Rn d bc bs mX0_addLine 79 [some (vR (some ar0)), some (vI x1), some (vI x2), some (vI x3), some (vI x4), some (vI x5)] [] (up h at3 (cI (w6.set (x5 + 1 : Int).toNat x2))) n Q) : Rn d (bc) (bs) mX0_addLine 69 [some (vR (some ar0)), some (vI x1), some (vI x2), some (vI x3), some (vI x4), some (vI x5)] [] h n Q := by
  refine Rn_aload_n dX0_addLine_69 rfl rfl rfl ?_
  refine Rn_getfield (ci := 0) (k := 0) dX0_addLine_70 rfl in_0 (Nat.le_of_ble_eq_true rfl) wd_194 rfl h2 g4 ?_
  refine Rn_iload dX0_addLine_73 rfl ?_
  refine Rn_iconst dX0_addLine_75 rfl ?_
  refine Rn_iadd dX0_addLine_76 ?_
  rw [w32_id b5.1 b5.2]
  refine Rn_iload_n dX0_addLine_77 rfl rfl ?_
  refine Rn_iastore dX0_addLine_78 z10 h7 i8 j9 ?_
  exact k
theorem BX0_addLine_79 {d bc bs : Nat} {h : aH} {n : Nat} {Q : aQ} {ar0 at3 : Nat} {x1 x2 x3 x4 x5 : Int} {f1 : List aV} {w6 : List Int} (h2 : h ar0 = cO 0 f1) (g4 : f1[0]? = some (vR (some at3))) (b5 : -2147483648 ≤ x5 + 2 ∧ x5 + 2 < 2147483648) (h7 : h at3 = cI w6) (i8 : 0 ≤ x5 + 2) (j9 : x5 + 2 < w6.length) (z10 : at3 ≠ 0) (k : Rn d bc bs mX0_addLine 89 [some (vR (some ar0)), some (vI x1), some (vI x2), some (vI x3), some (vI x4), some (vI x5)] [] (up h at3 (cI (w6.set (x5 + 2 : Int).toNat x3))) n Q) : Rn d (bc) (bs) mX0_addLine 79 [some (vR (some ar0)), some (vI x1), some (vI x2), some (vI x3), some (vI x4), some (vI x5)] [] h n Q := by
  refine Rn_aload_n dX0_addLine_79 rfl rfl rfl ?_
  refine Rn_getfield (ci := 0) (k := 0) dX0_addLine_80 rfl in_0 (Nat.le_of_ble_eq_true rfl) wd_194 rfl h2 g4 ?_
  refine Rn_iload dX0_addLine_83 rfl ?_
  refine Rn_iconst dX0_addLine_85 rfl ?_
  refine Rn_iadd dX0_addLine_86 ?_
  rw [w32_id b5.1 b5.2]
  refine Rn_iload_n dX0_addLine_87 rfl rfl ?_
  refine Rn_iastore dX0_addLine_88 z10 h7 i8 j9 ?_
  exact k
theorem BX0_addLine_89 {d bc bs : Nat} {h : aH} {n : Nat} {Q : aQ} {ar0 at3 : Nat} {x1 x2 x3 x4 x5 : Int} {f1 : List aV} {w6 : List Int} (h2 : h ar0 = cO 0 f1) (g4 : f1[0]? = some (vR (some at3))) (b5 : -2147483648 ≤ x5 + 3 ∧ x5 + 3 < 2147483648) (h7 : h at3 = cI w6) (i8 : 0 ≤ x5 + 3) (j9 : x5 + 3 < w6.length) (z10 : at3 ≠ 0) (k : Rn d bc bs mX0_addLine 100 [some (vR (some ar0)), some (vI x1), some (vI x2), some (vI x3), some (vI x4), some (vI x5)] [] (up h at3 (cI (w6.set (x5 + 3 : Int).toNat x4))) n Q) : Rn d (bc) (bs) mX0_addLine 89 [some (vR (some ar0)), some (vI x1), some (vI x2), some (vI x3), some (vI x4), some (vI x5)] [] h n Q := by
  refine Rn_aload_n dX0_addLine_89 rfl rfl rfl ?_
  refine Rn_getfield (ci := 0) (k := 0) dX0_addLine_90 rfl in_0 (Nat.le_of_ble_eq_true rfl) wd_194 rfl h2 g4 ?_
  refine Rn_iload dX0_addLine_93 rfl ?_
  refine Rn_iconst dX0_addLine_95 rfl ?_
  refine Rn_iadd dX0_addLine_96 ?_
  rw [w32_id b5.1 b5.2]
  refine Rn_iload dX0_addLine_97 rfl ?_
  refine Rn_iastore dX0_addLine_99 z10 h7 i8 j9 ?_
  exact k
theorem BX0_addLine_100 {d bc bs : Nat} {h : aH} {n : Nat} {Q : aQ} {ar0 : Nat} {x1 x2 x3 x4 x5 v3 : Int} {f1 : List aV} (h2 : h ar0 = cO 0 f1) (g4 : f1[1]? = some (vI v3)) (b5 : -2147483648 ≤ v3 + 1 ∧ v3 + 1 < 2147483648) (m6 : 1 < f1.length) (k : Rn d bc bs mX0_addLine 110 [some (vR (some ar0)), some (vI x1), some (vI x2), some (vI x3), some (vI x4), some (vI x5)] [] (up h ar0 (cO 0 (f1.set 1 (vI (v3 + 1))))) n Q) : Rn d (bc) (bs) mX0_addLine 100 [some (vR (some ar0)), some (vI x1), some (vI x2), some (vI x3), some (vI x4), some (vI x5)] [] h n Q := by
  refine Rn_aload_n dX0_addLine_100 rfl rfl rfl ?_
  refine Rn_dup dX0_addLine_101 rfl ?_
  refine Rn_getfield (ci := 0) (k := 1) dX0_addLine_102 rfl in_0 (Nat.le_of_ble_eq_true rfl) wd_195 rfl h2 g4 ?_
  refine Rn_iconst dX0_addLine_105 rfl ?_
  refine Rn_iadd dX0_addLine_106 ?_
  rw [w32_id b5.1 b5.2]
  refine Rn_putfield (ci := 0) (k := 1) dX0_addLine_107 rfl in_0 tyX0_ok nmX0 (Nat.le_of_ble_eq_true rfl) wd_195 rfl (Or.inl rfl) trivial m6 h2 ?_
  exact k
theorem BX0_addLine_110 {d bc bs : Nat} {h : aH} {n : Nat} {Q : aQ} {r0 : Option Nat} {x1 x2 x3 x4 x5 : Int} (k : Q none h n) : Rn d (bc) (bs) mX0_addLine 110 [some (vR r0), some (vI x1), some (vI x2), some (vI x3), some (vI x4), some (vI x5)] [] h n Q := by
  exact Rn_return rfl dX0_addLine_110 k
theorem dX0_part_0 : decode cX0_part 0 = .ok (.aload_n 0, 1) := by decide +kernel
theorem dX0_part_1 : decode cX0_part 1 = .ok (.getfield 11, 3) := by decide +kernel
theorem dX0_part_4 : decode cX0_part 4 = .ok (.iload_n 1, 1) := by decide +kernel
theorem dX0_part_5 : decode cX0_part 5 = .ok (.iconst 4, 1) := by decide +kernel
theorem dX0_part_6 : decode cX0_part 6 = .ok (.imul, 1) := by decide +kernel
theorem dX0_part_7 : decode cX0_part 7 = .ok (.iload_n 2, 1) := by decide +kernel
theorem dX0_part_8 : decode cX0_part 8 = .ok (.iadd, 1) := by decide +kernel
theorem dX0_part_9 : decode cX0_part 9 = .ok (.invokestatic 29, 3) := by decide +kernel
theorem dX0_part_12 : decode cX0_part 12 = .ok (.ireturn, 1) := by decide +kernel
theorem BX0_part_0 {d bc bs : Nat} {h : aH} {n : Nat} {Q : aQ} {ar0 : Nat} {x1 x2 : Int} {f1 : List aV} {t3 : Option Nat} (h2 : h ar0 = cO 0 f1) (g4 : f1[0]? = some (vR t3)) (b5 : -2147483648 ≤ x1 * 4 ∧ x1 * 4 < 2147483648) (b6 : -2147483648 ≤ (x1 * 4) + x2 ∧ (x1 * 4) + x2 < 2147483648) (k : Rn d 0 0 mX12_cell 0 [some (vR t3), some (vI ((x1 * 4) + x2))] [] h n (fun v h1 n1 => Rn (d + 1) bc bs mX0_part 12 [some (vR (some ar0)), some (vI x1), some (vI x2)] (v.toList ++ []) h1 n1 Q)) : Rn (d + 1) (bc) (bs) mX0_part 0 [some (vR (some ar0)), some (vI x1), some (vI x2)] [] h n Q := by
  refine Rn_aload_n dX0_part_0 rfl rfl rfl ?_
  refine Rn_getfield (ci := 0) (k := 0) dX0_part_1 rfl in_0 (Nat.le_of_ble_eq_true rfl) wd_194 rfl h2 g4 ?_
  refine Rn_iload_n dX0_part_4 rfl rfl ?_
  refine Rn_iconst dX0_part_5 rfl ?_
  refine Rn_imul dX0_part_6 ?_
  rw [w32_id b5.1 b5.2]
  refine Rn_iload_n dX0_part_7 rfl rfl ?_
  refine Rn_iadd dX0_part_8 ?_
  rw [w32_id b6.1 b6.2]
  exact Rn_callS (avs := [vR t3, vI ((x1 * 4) + x2)]) (st := []) (bc1 := 0) (bs1 := 0) (bc2 := bc) (bs2 := bs) fx_X12_cell dX0_part_9 (Or.inr ⟨"BottledPost", List.mem_of_getElem? (i := 20) rfl⟩) wd_967 rfl (Nat.le_of_ble_eq_true rfl) (Nat.le_of_ble_eq_true rfl) (by omega) (by omega) (ls1 := [some (vR t3), some (vI ((x1 * 4) + x2))]) rfl k
theorem BX0_part_12 {d bc bs : Nat} {h : aH} {n : Nat} {Q : aQ} {r0 : Option Nat} {x1 x2 s0 : Int} (k : Q (some (vI s0)) h n) : Rn d (bc) (bs) mX0_part 12 [some (vR r0), some (vI x1), some (vI x2)] [vI s0] h n Q := by
  exact Rn_ireturn rfl dX0_part_12 k
theorem dX0_countOf_0 : decode cX0_countOf 0 = .ok (.iconst 0, 1) := by decide +kernel
theorem dX0_countOf_1 : decode cX0_countOf 1 = .ok (.istore_n 2, 1) := by decide +kernel
theorem dX0_countOf_2 : decode cX0_countOf 2 = .ok (.iconst 0, 1) := by decide +kernel
theorem dX0_countOf_3 : decode cX0_countOf 3 = .ok (.istore_n 3, 1) := by decide +kernel
theorem dX0_countOf_4 : decode cX0_countOf 4 = .ok (.iload_n 3, 1) := by decide +kernel
theorem dX0_countOf_5 : decode cX0_countOf 5 = .ok (.aload_n 0, 1) := by decide +kernel
theorem dX0_countOf_6 : decode cX0_countOf 6 = .ok (.getfield 15, 3) := by decide +kernel
theorem dX0_countOf_9 : decode cX0_countOf 9 = .ok (.if_icmp .ge 22, 3) := by decide +kernel
theorem dX0_countOf_12 : decode cX0_countOf 12 = .ok (.aload_n 0, 1) := by decide +kernel
theorem dX0_countOf_13 : decode cX0_countOf 13 = .ok (.iload_n 3, 1) := by decide +kernel
theorem dX0_countOf_14 : decode cX0_countOf 14 = .ok (.iconst 2, 1) := by decide +kernel
theorem dX0_countOf_15 : decode cX0_countOf 15 = .ok (.invokevirtual 33, 3) := by decide +kernel
theorem dX0_countOf_18 : decode cX0_countOf 18 = .ok (.iload_n 1, 1) := by decide +kernel
theorem dX0_countOf_19 : decode cX0_countOf 19 = .ok (.if_icmp .ne 6, 3) := by decide +kernel
theorem dX0_countOf_22 : decode cX0_countOf 22 = .ok (.iinc 2 1, 3) := by decide +kernel
theorem dX0_countOf_25 : decode cX0_countOf 25 = .ok (.iinc 3 1, 3) := by decide +kernel
theorem dX0_countOf_28 : decode cX0_countOf 28 = .ok (.goto (-24), 3) := by decide +kernel
theorem dX0_countOf_31 : decode cX0_countOf 31 = .ok (.iload_n 2, 1) := by decide +kernel
theorem dX0_countOf_32 : decode cX0_countOf 32 = .ok (.ireturn, 1) := by decide +kernel
theorem BX0_countOf_0 {d bc bs : Nat} {h : aH} {n : Nat} {Q : aQ} {r0 : Option Nat} {x1 : Int} {l2 l3 : Option aV} (k : Rn d bc bs mX0_countOf 4 [some (vR r0), some (vI x1), some (vI 0), some (vI 0)] [] h n Q) : Rn d (bc) (bs) mX0_countOf 0 [some (vR r0), some (vI x1), l2, l3] [] h n Q := by
  refine Rn_iconst dX0_countOf_0 rfl ?_
  refine Rn_istore_n dX0_countOf_1 rfl (Nat.le_of_ble_eq_true rfl) rfl rfl ?_
  refine Rn_iconst dX0_countOf_2 rfl ?_
  refine Rn_istore_n dX0_countOf_3 rfl (Nat.le_of_ble_eq_true rfl) rfl rfl ?_
  exact k
theorem BX0_countOf_4 {d bc bs : Nat} {h : aH} {n : Nat} {Q : aQ} {ar0 : Nat} {x1 x2 x3 v3 : Int} {f1 : List aV} (h2 : h ar0 = cO 0 f1) (g4 : f1[1]? = some (vI v3)) (kt : v3 ≤ x3 → Rn d bc bs mX0_countOf 31 [some (vR (some ar0)), some (vI x1), some (vI x2), some (vI x3)] [] h n Q) (kf : x3 < v3 → Rn d bc bs mX0_countOf 12 [some (vR (some ar0)), some (vI x1), some (vI x2), some (vI x3)] [] h n Q) : Rn d (bc) (bs) mX0_countOf 4 [some (vR (some ar0)), some (vI x1), some (vI x2), some (vI x3)] [] h n Q := by
  refine Rn_iload_n dX0_countOf_4 rfl rfl ?_
  refine Rn_aload_n dX0_countOf_5 rfl rfl rfl ?_
  refine Rn_getfield (ci := 0) (k := 1) dX0_countOf_6 rfl in_0 (Nat.le_of_ble_eq_true rfl) wd_195 rfl h2 g4 ?_
  refine Rn_icmpge (tgt := 31) dX0_countOf_9 rfl ?_ ?_
  · exact kt
  · exact kf
theorem BX0_countOf_12 {d bc bs : Nat} {h : aH} {n : Nat} {Q : aQ} {ar0 : Nat} {x1 x2 x3 : Int} {f1 : List aV} (h2 : h ar0 = cO 0 f1) (k : Rn d 0 0 mX0_part 0 [some (vR (some ar0)), some (vI x3), some (vI 2)] [] h n (fun v h1 n1 => Rn (d + 1) bc bs mX0_countOf 18 [some (vR (some ar0)), some (vI x1), some (vI x2), some (vI x3)] (v.toList ++ []) h1 n1 Q)) : Rn (d + 1) (bc) (bs) mX0_countOf 12 [some (vR (some ar0)), some (vI x1), some (vI x2), some (vI x3)] [] h n Q := by
  refine Rn_aload_n dX0_countOf_12 rfl rfl rfl ?_
  refine Rn_iload_n dX0_countOf_13 rfl rfl ?_
  refine Rn_iconst dX0_countOf_14 rfl ?_
  exact Rn_callV (ci := 0) (avs := [vI x3, vI 2]) (st := []) (bc1 := 0) (bs1 := 0) (bc2 := bc) (bs2 := bs) fx_X0_part dX0_countOf_15 wd_1054 wd_1020 wd_1021 rfl h2 rfl (Nat.le_of_ble_eq_true rfl) (Nat.le_of_ble_eq_true rfl) (by omega) (by omega) (ls1 := [some (vR (some ar0)), some (vI x3), some (vI 2)]) rfl k
theorem BX0_countOf_18 {d bc bs : Nat} {h : aH} {n : Nat} {Q : aQ} {r0 : Option Nat} {x1 x2 x3 s0 : Int} (kt : s0 ≠ x1 → Rn d bc bs mX0_countOf 25 [some (vR r0), some (vI x1), some (vI x2), some (vI x3)] [] h n Q) (kf : s0 = x1 → Rn d bc bs mX0_countOf 22 [some (vR r0), some (vI x1), some (vI x2), some (vI x3)] [] h n Q) : Rn d (bc) (bs) mX0_countOf 18 [some (vR r0), some (vI x1), some (vI x2), some (vI x3)] [vI s0] h n Q := by
  refine Rn_iload_n dX0_countOf_18 rfl rfl ?_
  refine Rn_icmpne (tgt := 25) dX0_countOf_19 rfl ?_ ?_
  · exact kt
  · exact kf
theorem BX0_countOf_22 {d bc bs : Nat} {h : aH} {n : Nat} {Q : aQ} {r0 : Option Nat} {x1 x2 x3 : Int} (b1 : -2147483648 ≤ x2 + 1 ∧ x2 + 1 < 2147483648) (b2 : -2147483648 ≤ x3 + 1 ∧ x3 + 1 < 2147483648) (k : Rn d bc bs mX0_countOf 4 [some (vR r0), some (vI x1), some (vI (x2 + 1)), some (vI (x3 + 1))] [] h n Q) : Rn d (bc) (bs) mX0_countOf 22 [some (vR r0), some (vI x1), some (vI x2), some (vI x3)] [] h n Q := by
  refine Rn_iinc dX0_countOf_22 rfl (Nat.le_of_ble_eq_true rfl) rfl rfl rfl ?_
  rw [w32_id b1.1 b1.2]
  refine Rn_iinc dX0_countOf_25 rfl (Nat.le_of_ble_eq_true rfl) rfl rfl rfl ?_
  rw [w32_id b2.1 b2.2]
  refine Rn_goto (tgt := 4) dX0_countOf_28 rfl ?_
  exact k
theorem BX0_countOf_25 {d bc bs : Nat} {h : aH} {n : Nat} {Q : aQ} {r0 : Option Nat} {x1 x2 x3 : Int} (b1 : -2147483648 ≤ x3 + 1 ∧ x3 + 1 < 2147483648) (k : Rn d bc bs mX0_countOf 4 [some (vR r0), some (vI x1), some (vI x2), some (vI (x3 + 1))] [] h n Q) : Rn d (bc) (bs) mX0_countOf 25 [some (vR r0), some (vI x1), some (vI x2), some (vI x3)] [] h n Q := by
  refine Rn_iinc dX0_countOf_25 rfl (Nat.le_of_ble_eq_true rfl) rfl rfl rfl ?_
  rw [w32_id b1.1 b1.2]
  refine Rn_goto (tgt := 4) dX0_countOf_28 rfl ?_
  exact k
theorem BX0_countOf_31 {d bc bs : Nat} {h : aH} {n : Nat} {Q : aQ} {r0 : Option Nat} {x1 x2 x3 : Int} (k : Q (some (vI x2)) h n) : Rn d (bc) (bs) mX0_countOf 31 [some (vR r0), some (vI x1), some (vI x2), some (vI x3)] [] h n Q := by
  refine Rn_iload_n dX0_countOf_31 rfl rfl ?_
  exact Rn_ireturn rfl dX0_countOf_32 k
theorem dX2_init_0 : decode cX2_init 0 = .ok (.aload_n 0, 1) := by decide +kernel
theorem dX2_init_1 : decode cX2_init 1 = .ok (.invokespecial 3, 3) := by decide +kernel
theorem dX2_init_4 : decode cX2_init 4 = .ok (.aload_n 0, 1) := by decide +kernel
theorem dX2_init_5 : decode cX2_init 5 = .ok (.sipush 300, 3) := by decide +kernel
theorem dX2_init_8 : decode cX2_init 8 = .ok (.newarray .int, 2) := by decide +kernel
theorem dX2_init_10 : decode cX2_init 10 = .ok (.putfield 9, 3) := by decide +kernel
theorem dX2_init_13 : decode cX2_init 13 = .ok (.aload_n 0, 1) := by decide +kernel
theorem dX2_init_14 : decode cX2_init 14 = .ok (.iconst 0, 1) := by decide +kernel
theorem dX2_init_15 : decode cX2_init 15 = .ok (.putfield 15, 3) := by decide +kernel
theorem dX2_init_18 : decode cX2_init 18 = .ok (.return_, 1) := by decide +kernel
theorem BX2_init_0 {d bc bs : Nat} {h : aH} {n : Nat} {Q : aQ} {ar0 : Nat} (k : Rn (d + 1) bc bs mX2_init 10 [some (vR (some ar0))] [vR (some n), vR (some ar0)] (up h n (cI (List.replicate 300 0))) (n + 1) Q) : Rn (d + 1) (bc + 1) (bs + 300) mX2_init 0 [some (vR (some ar0))] [] h n Q := by
  refine Rn_aload_n dX2_init_0 rfl rfl rfl ?_
  refine Rn_objInit dX2_init_1 wd_393 wd_149 wd_150 (Nat.le_of_ble_eq_true rfl) ?_
  refine Rn_aload_n dX2_init_4 rfl rfl rfl ?_
  refine Rn_sipush dX2_init_5 rfl ?_
  refine Rn_newarrI (N := 300) (bc := bc) (bs := bs) (by omega) (by omega) wd_181 dX2_init_8 (by decide) ?_
  exact k
theorem BX2_init_10 {d bc bs : Nat} {h : aH} {n : Nat} {Q : aQ} {r0 q1 : Option Nat} {aq0 : Nat} {f1 : List aV} (h2 : h aq0 = cO 2 f1) (m3 : 0 < f1.length) (k : Rn d bc bs mX2_init 13 [some (vR r0)] [] (up h aq0 (cO 2 (f1.set 0 (vR q1)))) n Q) : Rn d (bc) (bs) mX2_init 10 [some (vR r0)] [vR q1, vR (some aq0)] h n Q := by
  refine Rn_putfield (ci := 2) (k := 0) dX2_init_10 rfl in_2 tyX2_ok nmX2 (Nat.le_of_ble_eq_true rfl) wd_394 rfl (Or.inr ⟨rfl, rfl⟩) trivial m3 h2 ?_
  exact k
theorem BX2_init_13 {d bc bs : Nat} {h : aH} {n : Nat} {Q : aQ} {ar0 : Nat} {f1 : List aV} (h2 : h ar0 = cO 2 f1) (m3 : 1 < f1.length) (k : Rn d bc bs mX2_init 18 [some (vR (some ar0))] [] (up h ar0 (cO 2 (f1.set 1 (vI 0)))) n Q) : Rn d (bc) (bs) mX2_init 13 [some (vR (some ar0))] [] h n Q := by
  refine Rn_aload_n dX2_init_13 rfl rfl rfl ?_
  refine Rn_iconst dX2_init_14 rfl ?_
  refine Rn_putfield (ci := 2) (k := 1) dX2_init_15 rfl in_2 tyX2_ok nmX2 (Nat.le_of_ble_eq_true rfl) wd_395 rfl (Or.inl rfl) trivial m3 h2 ?_
  exact k
theorem BX2_init_18 {d bc bs : Nat} {h : aH} {n : Nat} {Q : aQ} {r0 : Option Nat} (k : Q none h n) : Rn d (bc) (bs) mX2_init 18 [some (vR r0)] [] h n Q := by
  exact Rn_return rfl dX2_init_18 k
theorem dX2_sign_0 : decode cX2_sign 0 = .ok (.iload_n 1, 1) := by decide +kernel
theorem dX2_sign_1 : decode cX2_sign 1 = .ok (.bipush 64, 2) := by decide +kernel
theorem dX2_sign_3 : decode cX2_sign 3 = .ok (.imul, 1) := by decide +kernel
theorem dX2_sign_4 : decode cX2_sign 4 = .ok (.iload_n 0, 1) := by decide +kernel
theorem dX2_sign_5 : decode cX2_sign 5 = .ok (.iadd, 1) := by decide +kernel
theorem dX2_sign_6 : decode cX2_sign 6 = .ok (.ireturn, 1) := by decide +kernel
theorem BX2_sign_0 {d bc bs : Nat} {h : aH} {n : Nat} {Q : aQ} {x0 x1 : Int} (b1 : -2147483648 ≤ x1 * 64 ∧ x1 * 64 < 2147483648) (b2 : -2147483648 ≤ (x1 * 64) + x0 ∧ (x1 * 64) + x0 < 2147483648) (k : Q (some (vI ((x1 * 64) + x0))) h n) : Rn d (bc) (bs) mX2_sign 0 [some (vI x0), some (vI x1)] [] h n Q := by
  refine Rn_iload_n dX2_sign_0 rfl rfl ?_
  refine Rn_bipush dX2_sign_1 rfl ?_
  refine Rn_imul dX2_sign_3 ?_
  rw [w32_id b1.1 b1.2]
  refine Rn_iload_n dX2_sign_4 rfl rfl ?_
  refine Rn_iadd dX2_sign_5 ?_
  rw [w32_id b2.1 b2.2]
  exact Rn_ireturn rfl dX2_sign_6 k
theorem dX2_passTide_0 : decode cX2_passTide 0 = .ok (.iconst 0, 1) := by decide +kernel
theorem dX2_passTide_1 : decode cX2_passTide 1 = .ok (.istore 4, 2) := by decide +kernel
theorem dX2_passTide_3 : decode cX2_passTide 3 = .ok (.iconst 0, 1) := by decide +kernel
theorem dX2_passTide_4 : decode cX2_passTide 4 = .ok (.istore 5, 2) := by decide +kernel
theorem dX2_passTide_6 : decode cX2_passTide 6 = .ok (.iload 5, 2) := by decide +kernel
theorem dX2_passTide_8 : decode cX2_passTide 8 = .ok (.aload_n 1, 1) := by decide +kernel
theorem dX2_passTide_9 : decode cX2_passTide 9 = .ok (.getfield 19, 3) := by decide +kernel
theorem dX2_passTide_12 : decode cX2_passTide 12 = .ok (.if_icmp .ge 164, 3) := by decide +kernel
theorem dX2_passTide_15 : decode cX2_passTide 15 = .ok (.aload_n 1, 1) := by decide +kernel
theorem dX2_passTide_16 : decode cX2_passTide 16 = .ok (.iload 5, 2) := by decide +kernel
theorem dX2_passTide_18 : decode cX2_passTide 18 = .ok (.iconst 4, 1) := by decide +kernel
theorem dX2_passTide_19 : decode cX2_passTide 19 = .ok (.invokevirtual 24, 3) := by decide +kernel
theorem dX2_passTide_22 : decode cX2_passTide 22 = .ok (.ifCond .eq 6, 3) := by decide +kernel
theorem dX2_passTide_25 : decode cX2_passTide 25 = .ok (.goto 145, 3) := by decide +kernel
theorem dX2_passTide_28 : decode cX2_passTide 28 = .ok (.aload_n 1, 1) := by decide +kernel
theorem dX2_passTide_29 : decode cX2_passTide 29 = .ok (.iload 5, 2) := by decide +kernel
theorem dX2_passTide_31 : decode cX2_passTide 31 = .ok (.iconst 2, 1) := by decide +kernel
theorem dX2_passTide_32 : decode cX2_passTide 32 = .ok (.aload_n 2, 1) := by decide +kernel
theorem dX2_passTide_33 : decode cX2_passTide 33 = .ok (.aload_n 1, 1) := by decide +kernel
theorem dX2_passTide_34 : decode cX2_passTide 34 = .ok (.getfield 28, 3) := by decide +kernel
theorem dX2_passTide_37 : decode cX2_passTide 37 = .ok (.aload_n 1, 1) := by decide +kernel
theorem dX2_passTide_38 : decode cX2_passTide 38 = .ok (.iload 5, 2) := by decide +kernel
theorem dX2_passTide_40 : decode cX2_passTide 40 = .ok (.iconst 2, 1) := by decide +kernel
theorem dX2_passTide_41 : decode cX2_passTide 41 = .ok (.invokevirtual 24, 3) := by decide +kernel
theorem dX2_passTide_44 : decode cX2_passTide 44 = .ok (.invokevirtual 31, 3) := by decide +kernel
theorem dX2_passTide_47 : decode cX2_passTide 47 = .ok (.invokevirtual 36, 3) := by decide +kernel
theorem dX2_passTide_50 : decode cX2_passTide 50 = .ok (.iconst 0, 1) := by decide +kernel
theorem dX2_passTide_51 : decode cX2_passTide 51 = .ok (.aload_n 1, 1) := by decide +kernel
theorem dX2_passTide_52 : decode cX2_passTide 52 = .ok (.iload 5, 2) := by decide +kernel
theorem dX2_passTide_54 : decode cX2_passTide 54 = .ok (.iconst 3, 1) := by decide +kernel
theorem dX2_passTide_55 : decode cX2_passTide 55 = .ok (.invokevirtual 24, 3) := by decide +kernel
theorem dX2_passTide_58 : decode cX2_passTide 58 = .ok (.aload_n 0, 1) := by decide +kernel
theorem dX2_passTide_59 : decode cX2_passTide 59 = .ok (.aload_n 3, 1) := by decide +kernel
theorem dX2_passTide_60 : decode cX2_passTide 60 = .ok (.aload_n 1, 1) := by decide +kernel
theorem dX2_passTide_61 : decode cX2_passTide 61 = .ok (.aload_n 2, 1) := by decide +kernel
theorem dX2_passTide_62 : decode cX2_passTide 62 = .ok (.iload 5, 2) := by decide +kernel
theorem dX2_passTide_64 : decode cX2_passTide 64 = .ok (.invokevirtual 40, 3) := by decide +kernel
theorem dX2_passTide_67 : decode cX2_passTide 67 = .ok (.isub, 1) := by decide +kernel
theorem dX2_passTide_68 : decode cX2_passTide 68 = .ok (.invokestatic 44, 3) := by decide +kernel
theorem dX2_passTide_71 : decode cX2_passTide 71 = .ok (.istore 6, 2) := by decide +kernel
theorem dX2_passTide_73 : decode cX2_passTide 73 = .ok (.aload_n 1, 1) := by decide +kernel
theorem dX2_passTide_74 : decode cX2_passTide 74 = .ok (.iload 5, 2) := by decide +kernel
theorem dX2_passTide_76 : decode cX2_passTide 76 = .ok (.iconst 3, 1) := by decide +kernel
theorem dX2_passTide_77 : decode cX2_passTide 77 = .ok (.iload 6, 2) := by decide +kernel
theorem dX2_passTide_79 : decode cX2_passTide 79 = .ok (.invokevirtual 36, 3) := by decide +kernel
theorem dX2_passTide_82 : decode cX2_passTide 82 = .ok (.iload 6, 2) := by decide +kernel
theorem dX2_passTide_84 : decode cX2_passTide 84 = .ok (.ifCond .ne 21, 3) := by decide +kernel
theorem dX2_passTide_87 : decode cX2_passTide 87 = .ok (.aload_n 1, 1) := by decide +kernel
theorem dX2_passTide_88 : decode cX2_passTide 88 = .ok (.iload 5, 2) := by decide +kernel
theorem dX2_passTide_90 : decode cX2_passTide 90 = .ok (.iconst 4, 1) := by decide +kernel
theorem dX2_passTide_91 : decode cX2_passTide 91 = .ok (.iconst 2, 1) := by decide +kernel
theorem dX2_passTide_92 : decode cX2_passTide 92 = .ok (.invokevirtual 36, 3) := by decide +kernel
theorem dX2_passTide_95 : decode cX2_passTide 95 = .ok (.aload_n 1, 1) := by decide +kernel
theorem dX2_passTide_96 : decode cX2_passTide 96 = .ok (.iload 5, 2) := by decide +kernel
theorem dX2_passTide_98 : decode cX2_passTide 98 = .ok (.iconst 1, 1) := by decide +kernel
theorem dX2_passTide_99 : decode cX2_passTide 99 = .ok (.invokevirtual 49, 3) := by decide +kernel
theorem dX2_passTide_102 : decode cX2_passTide 102 = .ok (.goto 68, 3) := by decide +kernel
theorem dX2_passTide_105 : decode cX2_passTide 105 = .ok (.aload_n 1, 1) := by decide +kernel
theorem dX2_passTide_106 : decode cX2_passTide 106 = .ok (.iload 5, 2) := by decide +kernel
theorem dX2_passTide_108 : decode cX2_passTide 108 = .ok (.iconst 2, 1) := by decide +kernel
theorem dX2_passTide_109 : decode cX2_passTide 109 = .ok (.invokevirtual 24, 3) := by decide +kernel
theorem dX2_passTide_112 : decode cX2_passTide 112 = .ok (.aload_n 2, 1) := by decide +kernel
theorem dX2_passTide_113 : decode cX2_passTide 113 = .ok (.aload_n 1, 1) := by decide +kernel
theorem dX2_passTide_114 : decode cX2_passTide 114 = .ok (.iload 5, 2) := by decide +kernel
theorem dX2_passTide_116 : decode cX2_passTide 116 = .ok (.iconst 1, 1) := by decide +kernel
theorem dX2_passTide_117 : decode cX2_passTide 117 = .ok (.invokevirtual 24, 3) := by decide +kernel
theorem dX2_passTide_120 : decode cX2_passTide 120 = .ok (.invokevirtual 53, 3) := by decide +kernel
theorem dX2_passTide_123 : decode cX2_passTide 123 = .ok (.if_icmp .ne 47, 3) := by decide +kernel
theorem dX2_passTide_126 : decode cX2_passTide 126 = .ok (.aload_n 1, 1) := by decide +kernel
theorem dX2_passTide_127 : decode cX2_passTide 127 = .ok (.invokevirtual 57, 3) := by decide +kernel
theorem dX2_passTide_130 : decode cX2_passTide 130 = .ok (.bipush 10, 2) := by decide +kernel
theorem dX2_passTide_132 : decode cX2_passTide 132 = .ok (.irem, 1) := by decide +kernel
theorem dX2_passTide_133 : decode cX2_passTide 133 = .ok (.istore 7, 2) := by decide +kernel
theorem dX2_passTide_135 : decode cX2_passTide 135 = .ok (.iload 7, 2) := by decide +kernel
theorem dX2_passTide_137 : decode cX2_passTide 137 = .ok (.aload_n 0, 1) := by decide +kernel
theorem dX2_passTide_138 : decode cX2_passTide 138 = .ok (.aload_n 3, 1) := by decide +kernel
theorem dX2_passTide_139 : decode cX2_passTide 139 = .ok (.aload_n 1, 1) := by decide +kernel
theorem dX2_passTide_140 : decode cX2_passTide 140 = .ok (.aload_n 2, 1) := by decide +kernel
theorem dX2_passTide_141 : decode cX2_passTide 141 = .ok (.iload 5, 2) := by decide +kernel
theorem dX2_passTide_143 : decode cX2_passTide 143 = .ok (.invokevirtual 61, 3) := by decide +kernel
theorem dX2_passTide_146 : decode cX2_passTide 146 = .ok (.if_icmp .lt 6, 3) := by decide +kernel
theorem dX2_passTide_149 : decode cX2_passTide 149 = .ok (.goto 21, 3) := by decide +kernel
theorem dX2_passTide_152 : decode cX2_passTide 152 = .ok (.aload_n 1, 1) := by decide +kernel
theorem dX2_passTide_153 : decode cX2_passTide 153 = .ok (.iload 5, 2) := by decide +kernel
theorem dX2_passTide_155 : decode cX2_passTide 155 = .ok (.iconst 4, 1) := by decide +kernel
theorem dX2_passTide_156 : decode cX2_passTide 156 = .ok (.iconst 1, 1) := by decide +kernel
theorem dX2_passTide_157 : decode cX2_passTide 157 = .ok (.invokevirtual 36, 3) := by decide +kernel
theorem dX2_passTide_160 : decode cX2_passTide 160 = .ok (.aload_n 1, 1) := by decide +kernel
theorem dX2_passTide_161 : decode cX2_passTide 161 = .ok (.iload 5, 2) := by decide +kernel
theorem dX2_passTide_163 : decode cX2_passTide 163 = .ok (.iconst 0, 1) := by decide +kernel
theorem dX2_passTide_164 : decode cX2_passTide 164 = .ok (.invokevirtual 49, 3) := by decide +kernel
theorem dX2_passTide_167 : decode cX2_passTide 167 = .ok (.iinc 4 1, 3) := by decide +kernel
theorem dX2_passTide_170 : decode cX2_passTide 170 = .ok (.iinc 5 1, 3) := by decide +kernel
theorem dX2_passTide_173 : decode cX2_passTide 173 = .ok (.goto (-167), 3) := by decide +kernel
theorem dX2_passTide_176 : decode cX2_passTide 176 = .ok (.aload_n 1, 1) := by decide +kernel
theorem dX2_passTide_177 : decode cX2_passTide 177 = .ok (.dup, 1) := by decide +kernel
theorem dX2_passTide_178 : decode cX2_passTide 178 = .ok (.getfield 28, 3) := by decide +kernel
theorem dX2_passTide_181 : decode cX2_passTide 181 = .ok (.iconst 1, 1) := by decide +kernel
theorem dX2_passTide_182 : decode cX2_passTide 182 = .ok (.iadd, 1) := by decide +kernel
theorem dX2_passTide_183 : decode cX2_passTide 183 = .ok (.putfield 28, 3) := by decide +kernel
theorem dX2_passTide_186 : decode cX2_passTide 186 = .ok (.iload 4, 2) := by decide +kernel
theorem dX2_passTide_188 : decode cX2_passTide 188 = .ok (.ireturn, 1) := by decide +kernel
theorem BX2_passTide_0 {d bc bs : Nat} {h : aH} {n : Nat} {Q : aQ} {r0 r1 r2 r3 : Option Nat} {l4 l5 l6 l7 : Option aV} (k : Rn d bc bs mX2_passTide 6 [some (vR r0), some (vR r1), some (vR r2), some (vR r3), some (vI 0), some (vI 0), l6, l7] [] h n Q) : Rn d (bc) (bs) mX2_passTide 0 [some (vR r0), some (vR r1), some (vR r2), some (vR r3), l4, l5, l6, l7] [] h n Q := by
  refine Rn_iconst dX2_passTide_0 rfl ?_
  refine Rn_istore dX2_passTide_1 (Nat.le_of_ble_eq_true rfl) rfl rfl ?_
  refine Rn_iconst dX2_passTide_3 rfl ?_
  refine Rn_istore dX2_passTide_4 (Nat.le_of_ble_eq_true rfl) rfl rfl ?_
  exact k
theorem BX2_passTide_6 {d bc bs : Nat} {h : aH} {n : Nat} {Q : aQ} {r0 r2 r3 : Option Nat} {ar1 : Nat} {x4 x5 v3 : Int} {l6 l7 : Option aV} {f1 : List aV} (h2 : h ar1 = cO 6 f1) (g4 : f1[2]? = some (vI v3)) (kt : v3 ≤ x5 → Rn d bc bs mX2_passTide 176 [some (vR r0), some (vR (some ar1)), some (vR r2), some (vR r3), some (vI x4), some (vI x5), l6, l7] [] h n Q) (kf : x5 < v3 → Rn d bc bs mX2_passTide 15 [some (vR r0), some (vR (some ar1)), some (vR r2), some (vR r3), some (vI x4), some (vI x5), l6, l7] [] h n Q) : Rn d (bc) (bs) mX2_passTide 6 [some (vR r0), some (vR (some ar1)), some (vR r2), some (vR r3), some (vI x4), some (vI x5), l6, l7] [] h n Q := by
  refine Rn_iload dX2_passTide_6 rfl ?_
  refine Rn_aload_n dX2_passTide_8 rfl rfl rfl ?_
  refine Rn_getfield (ci := 6) (k := 2) dX2_passTide_9 rfl in_6 (Nat.le_of_ble_eq_true rfl) wd_206 rfl h2 g4 ?_
  refine Rn_icmpge (tgt := 176) dX2_passTide_12 rfl ?_ ?_
  · exact kt
  · exact kf
theorem BX2_passTide_15 {d bc bs : Nat} {h : aH} {n : Nat} {Q : aQ} {r0 r2 r3 : Option Nat} {ar1 : Nat} {x4 x5 : Int} {l6 l7 : Option aV} {f1 : List aV} (h2 : h ar1 = cO 6 f1) (k : Rn d 0 0 mX6_get 0 [some (vR (some ar1)), some (vI x5), some (vI 4), none] [] h n (fun v h1 n1 => Rn (d + 1) bc bs mX2_passTide 22 [some (vR r0), some (vR (some ar1)), some (vR r2), some (vR r3), some (vI x4), some (vI x5), l6, l7] (v.toList ++ []) h1 n1 Q)) : Rn (d + 1) (bc) (bs) mX2_passTide 15 [some (vR r0), some (vR (some ar1)), some (vR r2), some (vR r3), some (vI x4), some (vI x5), l6, l7] [] h n Q := by
  refine Rn_aload_n dX2_passTide_15 rfl rfl rfl ?_
  refine Rn_iload dX2_passTide_16 rfl ?_
  refine Rn_iconst dX2_passTide_18 rfl ?_
  exact Rn_callV (ci := 6) (avs := [vI x5, vI 4]) (st := []) (bc1 := 0) (bs1 := 0) (bc2 := bc) (bs2 := bs) fx_X6_get dX2_passTide_19 wd_883 wd_840 wd_841 rfl h2 rfl (Nat.le_of_ble_eq_true rfl) (Nat.le_of_ble_eq_true rfl) (by omega) (by omega) (ls1 := [some (vR (some ar1)), some (vI x5), some (vI 4), none]) rfl k
theorem BX2_passTide_22 {d bc bs : Nat} {h : aH} {n : Nat} {Q : aQ} {r0 r1 r2 r3 : Option Nat} {x4 x5 s0 : Int} {l6 l7 : Option aV} (kt : s0 = 0 → Rn d bc bs mX2_passTide 28 [some (vR r0), some (vR r1), some (vR r2), some (vR r3), some (vI x4), some (vI x5), l6, l7] [] h n Q) (kf : s0 ≠ 0 → Rn d bc bs mX2_passTide 25 [some (vR r0), some (vR r1), some (vR r2), some (vR r3), some (vI x4), some (vI x5), l6, l7] [] h n Q) : Rn d (bc) (bs) mX2_passTide 22 [some (vR r0), some (vR r1), some (vR r2), some (vR r3), some (vI x4), some (vI x5), l6, l7] [vI s0] h n Q := by
  refine Rn_ifeq (tgt := 28) dX2_passTide_22 rfl ?_ ?_
  · exact kt
  · exact kf
theorem BX2_passTide_25 {d bc bs : Nat} {h : aH} {n : Nat} {Q : aQ} {r0 r1 r2 r3 : Option Nat} {x4 x5 : Int} {l6 l7 : Option aV} (b1 : -2147483648 ≤ x5 + 1 ∧ x5 + 1 < 2147483648) (k : Rn d bc bs mX2_passTide 6 [some (vR r0), some (vR r1), some (vR r2), some (vR r3), some (vI x4), some (vI (x5 + 1)), l6, l7] [] h n Q) : Rn d (bc) (bs) mX2_passTide 25 [some (vR r0), some (vR r1), some (vR r2), some (vR r3), some (vI x4), some (vI x5), l6, l7] [] h n Q := by
  refine Rn_goto (tgt := 170) dX2_passTide_25 rfl ?_
  refine Rn_iinc dX2_passTide_170 rfl (Nat.le_of_ble_eq_true rfl) rfl rfl rfl ?_
  rw [w32_id b1.1 b1.2]
  refine Rn_goto (tgt := 6) dX2_passTide_173 rfl ?_
  exact k
theorem BX2_passTide_28 {d bc bs : Nat} {h : aH} {n : Nat} {Q : aQ} {r0 r2 r3 : Option Nat} {ar1 : Nat} {x4 x5 v3 : Int} {l6 l7 : Option aV} {f1 : List aV} (h2 : h ar1 = cO 6 f1) (g4 : f1[3]? = some (vI v3)) (k : Rn d 0 0 mX6_get 0 [some (vR (some ar1)), some (vI x5), some (vI 2), none] [] h n (fun v h1 n1 => Rn (d + 1) bc bs mX2_passTide 44 [some (vR r0), some (vR (some ar1)), some (vR r2), some (vR r3), some (vI x4), some (vI x5), l6, l7] (v.toList ++ [vI v3, vR r2, vI 2, vI x5, vR (some ar1)]) h1 n1 Q)) : Rn (d + 1) (bc) (bs) mX2_passTide 28 [some (vR r0), some (vR (some ar1)), some (vR r2), some (vR r3), some (vI x4), some (vI x5), l6, l7] [] h n Q := by
  refine Rn_aload_n dX2_passTide_28 rfl rfl rfl ?_
  refine Rn_iload dX2_passTide_29 rfl ?_
  refine Rn_iconst dX2_passTide_31 rfl ?_
  refine Rn_aload_n dX2_passTide_32 rfl rfl rfl ?_
  refine Rn_aload_n dX2_passTide_33 rfl rfl rfl ?_
  refine Rn_getfield (ci := 6) (k := 3) dX2_passTide_34 rfl in_6 (Nat.le_of_ble_eq_true rfl) wd_209 rfl h2 g4 ?_
  refine Rn_aload_n dX2_passTide_37 rfl rfl rfl ?_
  refine Rn_iload dX2_passTide_38 rfl ?_
  refine Rn_iconst dX2_passTide_40 rfl ?_
  exact Rn_callV (ci := 6) (avs := [vI x5, vI 2]) (st := [vI v3, vR r2, vI 2, vI x5, vR (some ar1)]) (bc1 := 0) (bs1 := 0) (bc2 := bc) (bs2 := bs) fx_X6_get dX2_passTide_41 wd_883 wd_840 wd_841 rfl h2 rfl (Nat.le_of_ble_eq_true rfl) (Nat.le_of_ble_eq_true rfl) (by omega) (by omega) (ls1 := [some (vR (some ar1)), some (vI x5), some (vI 2), none]) rfl k
theorem BX2_passTide_44 {d bc bs : Nat} {h : aH} {n : Nat} {Q : aQ} {r0 r1 r2 r3 q0 : Option Nat} {x4 x5 s1 s2 s4 s5 : Int} {l6 l7 : Option aV} {aq3 : Nat} {f1 : List aV} (h2 : h aq3 = cO 7 f1) (k : Rn d 0 0 mX7_leadsTo 0 [some (vR (some aq3)), some (vI s4), some (vI s5), none] [] h n (fun v h1 n1 => Rn (d + 1) bc bs mX2_passTide 47 [some (vR r0), some (vR r1), some (vR r2), some (vR r3), some (vI x4), some (vI x5), l6, l7] (v.toList ++ [vI s2, vI s1, vR q0]) h1 n1 Q)) : Rn (d + 1) (bc) (bs) mX2_passTide 44 [some (vR r0), some (vR r1), some (vR r2), some (vR r3), some (vI x4), some (vI x5), l6, l7] [vI s5, vI s4, vR (some aq3), vI s2, vI s1, vR q0] h n Q := by
  exact Rn_callV (ci := 7) (avs := [vI s4, vI s5]) (st := [vI s2, vI s1, vR q0]) (bc1 := 0) (bs1 := 0) (bc2 := bc) (bs2 := bs) fx_X7_leadsTo dX2_passTide_44 wd_884 wd_885 wd_886 rfl h2 rfl (Nat.le_of_ble_eq_true rfl) (Nat.le_of_ble_eq_true rfl) (by omega) (by omega) (ls1 := [some (vR (some aq3)), some (vI s4), some (vI s5), none]) rfl k
theorem BX2_passTide_47 {d bc bs : Nat} {h : aH} {n : Nat} {Q : aQ} {r0 r1 r2 r3 : Option Nat} {x4 x5 s1 s2 s3 : Int} {l6 l7 : Option aV} {aq0 : Nat} {f1 : List aV} (h2 : h aq0 = cO 6 f1) (k : Rn d 0 0 mX6_set 0 [some (vR (some aq0)), some (vI s1), some (vI s2), some (vI s3), none] [] h n (fun v h1 n1 => Rn (d + 1) bc bs mX2_passTide 50 [some (vR r0), some (vR r1), some (vR r2), some (vR r3), some (vI x4), some (vI x5), l6, l7] (v.toList ++ []) h1 n1 Q)) : Rn (d + 1) (bc) (bs) mX2_passTide 47 [some (vR r0), some (vR r1), some (vR r2), some (vR r3), some (vI x4), some (vI x5), l6, l7] [vI s3, vI s2, vI s1, vR (some aq0)] h n Q := by
  exact Rn_callV (ci := 6) (avs := [vI s1, vI s2, vI s3]) (st := []) (bc1 := 0) (bs1 := 0) (bc2 := bc) (bs2 := bs) fx_X6_set dX2_passTide_47 wd_891 wd_820 wd_821 rfl h2 rfl (Nat.le_of_ble_eq_true rfl) (Nat.le_of_ble_eq_true rfl) (by omega) (by omega) (ls1 := [some (vR (some aq0)), some (vI s1), some (vI s2), some (vI s3), none]) rfl k
theorem BX2_passTide_50 {d bc bs : Nat} {h : aH} {n : Nat} {Q : aQ} {r0 r2 r3 : Option Nat} {ar1 : Nat} {x4 x5 : Int} {l6 l7 : Option aV} {f1 : List aV} (h2 : h ar1 = cO 6 f1) (k : Rn d 0 0 mX6_get 0 [some (vR (some ar1)), some (vI x5), some (vI 3), none] [] h n (fun v h1 n1 => Rn (d + 1) bc bs mX2_passTide 58 [some (vR r0), some (vR (some ar1)), some (vR r2), some (vR r3), some (vI x4), some (vI x5), l6, l7] (v.toList ++ [vI 0]) h1 n1 Q)) : Rn (d + 1) (bc) (bs) mX2_passTide 50 [some (vR r0), some (vR (some ar1)), some (vR r2), some (vR r3), some (vI x4), some (vI x5), l6, l7] [] h n Q := by
  refine Rn_iconst dX2_passTide_50 rfl ?_
  refine Rn_aload_n dX2_passTide_51 rfl rfl rfl ?_
  refine Rn_iload dX2_passTide_52 rfl ?_
  refine Rn_iconst dX2_passTide_54 rfl ?_
  exact Rn_callV (ci := 6) (avs := [vI x5, vI 3]) (st := [vI 0]) (bc1 := 0) (bs1 := 0) (bc2 := bc) (bs2 := bs) fx_X6_get dX2_passTide_55 wd_883 wd_840 wd_841 rfl h2 rfl (Nat.le_of_ble_eq_true rfl) (Nat.le_of_ble_eq_true rfl) (by omega) (by omega) (ls1 := [some (vR (some ar1)), some (vI x5), some (vI 3), none]) rfl k
theorem BX2_passTide_58 {d bc bs : Nat} {h : aH} {n : Nat} {Q : aQ} {ar0 : Nat} {r1 r2 r3 : Option Nat} {x4 x5 s0 s1 : Int} {l6 l7 : Option aV} {f1 : List aV} (h2 : h ar0 = cO 2 f1) (k : Rn d 0 0 mX2_wearsOf 0 [some (vR (some ar0)), some (vR r3), some (vR r1), some (vR r2), some (vI x5)] [] h n (fun v h1 n1 => Rn (d + 1) bc bs mX2_passTide 67 [some (vR (some ar0)), some (vR r1), some (vR r2), some (vR r3), some (vI x4), some (vI x5), l6, l7] (v.toList ++ [vI s1, vI s0]) h1 n1 Q)) : Rn (d + 1) (bc) (bs) mX2_passTide 58 [some (vR (some ar0)), some (vR r1), some (vR r2), some (vR r3), some (vI x4), some (vI x5), l6, l7] [vI s1, vI s0] h n Q := by
  refine Rn_aload_n dX2_passTide_58 rfl rfl rfl ?_
  refine Rn_aload_n dX2_passTide_59 rfl rfl rfl ?_
  refine Rn_aload_n dX2_passTide_60 rfl rfl rfl ?_
  refine Rn_aload_n dX2_passTide_61 rfl rfl rfl ?_
  refine Rn_iload dX2_passTide_62 rfl ?_
  exact Rn_callV (ci := 2) (avs := [vR r3, vR r1, vR r2, vI x5]) (st := [vI s1, vI s0]) (bc1 := 0) (bs1 := 0) (bc2 := bc) (bs2 := bs) fx_X2_wearsOf dX2_passTide_64 wd_892 wd_893 wd_894 rfl h2 rfl (Nat.le_of_ble_eq_true rfl) (Nat.le_of_ble_eq_true rfl) (by omega) (by omega) (ls1 := [some (vR (some ar0)), some (vR r3), some (vR r1), some (vR r2), some (vI x5)]) rfl k
theorem BX2_passTide_67 {d bc bs : Nat} {h : aH} {n : Nat} {Q : aQ} {r0 r1 r2 r3 : Option Nat} {x4 x5 s0 s1 s2 : Int} {l6 l7 : Option aV} (b1 : -2147483648 ≤ s1 - s2 ∧ s1 - s2 < 2147483648) (k : Rn d 0 0 mJ9_max_7cf53 0 [some (vI s0), some (vI (s1 - s2))] [] h n (fun v h1 n1 => Rn (d + 1) bc bs mX2_passTide 71 [some (vR r0), some (vR r1), some (vR r2), some (vR r3), some (vI x4), some (vI x5), l6, l7] (v.toList ++ []) h1 n1 Q)) : Rn (d + 1) (bc) (bs) mX2_passTide 67 [some (vR r0), some (vR r1), some (vR r2), some (vR r3), some (vI x4), some (vI x5), l6, l7] [vI s2, vI s1, vI s0] h n Q := by
  refine Rn_isub dX2_passTide_67 ?_
  rw [w32_id b1.1 b1.2]
  exact Rn_callS (avs := [vI s0, vI (s1 - s2)]) (st := []) (bc1 := 0) (bs1 := 0) (bc2 := bc) (bs2 := bs) fx_J9_max_7cf53 dX2_passTide_68 (Or.inl wd_900) wd_717 rfl (Nat.le_of_ble_eq_true rfl) (Nat.le_of_ble_eq_true rfl) (by omega) (by omega) (ls1 := [some (vI s0), some (vI (s1 - s2))]) rfl k
theorem BX2_passTide_71 {d bc bs : Nat} {h : aH} {n : Nat} {Q : aQ} {r0 r2 r3 : Option Nat} {ar1 : Nat} {x4 x5 s0 : Int} {l6 l7 : Option aV} {f1 : List aV} (h2 : h ar1 = cO 6 f1) (k : Rn d 0 0 mX6_set 0 [some (vR (some ar1)), some (vI x5), some (vI 3), some (vI s0), none] [] h n (fun v h1 n1 => Rn (d + 1) bc bs mX2_passTide 82 [some (vR r0), some (vR (some ar1)), some (vR r2), some (vR r3), some (vI x4), some (vI x5), some (vI s0), l7] (v.toList ++ []) h1 n1 Q)) : Rn (d + 1) (bc) (bs) mX2_passTide 71 [some (vR r0), some (vR (some ar1)), some (vR r2), some (vR r3), some (vI x4), some (vI x5), l6, l7] [vI s0] h n Q := by
  refine Rn_istore dX2_passTide_71 (Nat.le_of_ble_eq_true rfl) rfl rfl ?_
  refine Rn_aload_n dX2_passTide_73 rfl rfl rfl ?_
  refine Rn_iload dX2_passTide_74 rfl ?_
  refine Rn_iconst dX2_passTide_76 rfl ?_
  refine Rn_iload dX2_passTide_77 rfl ?_
  exact Rn_callV (ci := 6) (avs := [vI x5, vI 3, vI s0]) (st := []) (bc1 := 0) (bs1 := 0) (bc2 := bc) (bs2 := bs) fx_X6_set dX2_passTide_79 wd_891 wd_820 wd_821 rfl h2 rfl (Nat.le_of_ble_eq_true rfl) (Nat.le_of_ble_eq_true rfl) (by omega) (by omega) (ls1 := [some (vR (some ar1)), some (vI x5), some (vI 3), some (vI s0), none]) rfl k
theorem BX2_passTide_82 {d bc bs : Nat} {h : aH} {n : Nat} {Q : aQ} {r0 r1 r2 r3 : Option Nat} {x4 x5 x6 : Int} {l7 : Option aV} (kt : x6 ≠ 0 → Rn d bc bs mX2_passTide 105 [some (vR r0), some (vR r1), some (vR r2), some (vR r3), some (vI x4), some (vI x5), some (vI x6), l7] [] h n Q) (kf : x6 = 0 → Rn d bc bs mX2_passTide 87 [some (vR r0), some (vR r1), some (vR r2), some (vR r3), some (vI x4), some (vI x5), some (vI x6), l7] [] h n Q) : Rn d (bc) (bs) mX2_passTide 82 [some (vR r0), some (vR r1), some (vR r2), some (vR r3), some (vI x4), some (vI x5), some (vI x6), l7] [] h n Q := by
  refine Rn_iload dX2_passTide_82 rfl ?_
  refine Rn_ifne (tgt := 105) dX2_passTide_84 rfl ?_ ?_
  · exact kt
  · exact kf
theorem BX2_passTide_87 {d bc bs : Nat} {h : aH} {n : Nat} {Q : aQ} {r0 r2 r3 : Option Nat} {ar1 : Nat} {x4 x5 x6 : Int} {l7 : Option aV} {f1 : List aV} (h2 : h ar1 = cO 6 f1) (k : Rn d 0 0 mX6_set 0 [some (vR (some ar1)), some (vI x5), some (vI 4), some (vI 2), none] [] h n (fun v h1 n1 => Rn (d + 1) bc bs mX2_passTide 95 [some (vR r0), some (vR (some ar1)), some (vR r2), some (vR r3), some (vI x4), some (vI x5), some (vI x6), l7] (v.toList ++ []) h1 n1 Q)) : Rn (d + 1) (bc) (bs) mX2_passTide 87 [some (vR r0), some (vR (some ar1)), some (vR r2), some (vR r3), some (vI x4), some (vI x5), some (vI x6), l7] [] h n Q := by
  refine Rn_aload_n dX2_passTide_87 rfl rfl rfl ?_
  refine Rn_iload dX2_passTide_88 rfl ?_
  refine Rn_iconst dX2_passTide_90 rfl ?_
  refine Rn_iconst dX2_passTide_91 rfl ?_
  exact Rn_callV (ci := 6) (avs := [vI x5, vI 4, vI 2]) (st := []) (bc1 := 0) (bs1 := 0) (bc2 := bc) (bs2 := bs) fx_X6_set dX2_passTide_92 wd_891 wd_820 wd_821 rfl h2 rfl (Nat.le_of_ble_eq_true rfl) (Nat.le_of_ble_eq_true rfl) (by omega) (by omega) (ls1 := [some (vR (some ar1)), some (vI x5), some (vI 4), some (vI 2), none]) rfl k
theorem BX2_passTide_95 {d bc bs : Nat} {h : aH} {n : Nat} {Q : aQ} {r0 r2 r3 : Option Nat} {ar1 : Nat} {x4 x5 x6 : Int} {l7 : Option aV} {f1 : List aV} (h2 : h ar1 = cO 6 f1) (k : Rn d 0 0 mX6_writeDown 0 [some (vR (some ar1)), some (vI x5), some (vI 1)] [] h n (fun v h1 n1 => Rn (d + 1) bc bs mX2_passTide 102 [some (vR r0), some (vR (some ar1)), some (vR r2), some (vR r3), some (vI x4), some (vI x5), some (vI x6), l7] (v.toList ++ []) h1 n1 Q)) : Rn (d + 1) (bc) (bs) mX2_passTide 95 [some (vR r0), some (vR (some ar1)), some (vR r2), some (vR r3), some (vI x4), some (vI x5), some (vI x6), l7] [] h n Q := by
  refine Rn_aload_n dX2_passTide_95 rfl rfl rfl ?_
  refine Rn_iload dX2_passTide_96 rfl ?_
  refine Rn_iconst dX2_passTide_98 rfl ?_
  exact Rn_callV (ci := 6) (avs := [vI x5, vI 1]) (st := []) (bc1 := 0) (bs1 := 0) (bc2 := bc) (bs2 := bs) fx_X6_writeDown dX2_passTide_99 wd_940 wd_846 wd_847 rfl h2 rfl (Nat.le_of_ble_eq_true rfl) (Nat.le_of_ble_eq_true rfl) (by omega) (by omega) (ls1 := [some (vR (some ar1)), some (vI x5), some (vI 1)]) rfl k
theorem BX2_passTide_102 {d bc bs : Nat} {h : aH} {n : Nat} {Q : aQ} {r0 r1 r2 r3 : Option Nat} {x4 x5 x6 : Int} {l7 : Option aV} (b1 : -2147483648 ≤ x5 + 1 ∧ x5 + 1 < 2147483648) (k : Rn d bc bs mX2_passTide 6 [some (vR r0), some (vR r1), some (vR r2), some (vR r3), some (vI x4), some (vI (x5 + 1)), some (vI x6), l7] [] h n Q) : Rn d (bc) (bs) mX2_passTide 102 [some (vR r0), some (vR r1), some (vR r2), some (vR r3), some (vI x4), some (vI x5), some (vI x6), l7] [] h n Q := by
  refine Rn_goto (tgt := 170) dX2_passTide_102 rfl ?_
  refine Rn_iinc dX2_passTide_170 rfl (Nat.le_of_ble_eq_true rfl) rfl rfl rfl ?_
  rw [w32_id b1.1 b1.2]
  refine Rn_goto (tgt := 6) dX2_passTide_173 rfl ?_
  exact k
theorem BX2_passTide_105 {d bc bs : Nat} {h : aH} {n : Nat} {Q : aQ} {r0 r2 r3 : Option Nat} {ar1 : Nat} {x4 x5 x6 : Int} {l7 : Option aV} {f1 : List aV} (h2 : h ar1 = cO 6 f1) (k : Rn d 0 0 mX6_get 0 [some (vR (some ar1)), some (vI x5), some (vI 2), none] [] h n (fun v h1 n1 => Rn (d + 1) bc bs mX2_passTide 112 [some (vR r0), some (vR (some ar1)), some (vR r2), some (vR r3), some (vI x4), some (vI x5), some (vI x6), l7] (v.toList ++ []) h1 n1 Q)) : Rn (d + 1) (bc) (bs) mX2_passTide 105 [some (vR r0), some (vR (some ar1)), some (vR r2), some (vR r3), some (vI x4), some (vI x5), some (vI x6), l7] [] h n Q := by
  refine Rn_aload_n dX2_passTide_105 rfl rfl rfl ?_
  refine Rn_iload dX2_passTide_106 rfl ?_
  refine Rn_iconst dX2_passTide_108 rfl ?_
  exact Rn_callV (ci := 6) (avs := [vI x5, vI 2]) (st := []) (bc1 := 0) (bs1 := 0) (bc2 := bc) (bs2 := bs) fx_X6_get dX2_passTide_109 wd_883 wd_840 wd_841 rfl h2 rfl (Nat.le_of_ble_eq_true rfl) (Nat.le_of_ble_eq_true rfl) (by omega) (by omega) (ls1 := [some (vR (some ar1)), some (vI x5), some (vI 2), none]) rfl k
theorem BX2_passTide_112 {d bc bs : Nat} {h : aH} {n : Nat} {Q : aQ} {r0 r2 r3 : Option Nat} {ar1 : Nat} {x4 x5 x6 s0 : Int} {l7 : Option aV} {f1 : List aV} (h2 : h ar1 = cO 6 f1) (k : Rn d 0 0 mX6_get 0 [some (vR (some ar1)), some (vI x5), some (vI 1), none] [] h n (fun v h1 n1 => Rn (d + 1) bc bs mX2_passTide 120 [some (vR r0), some (vR (some ar1)), some (vR r2), some (vR r3), some (vI x4), some (vI x5), some (vI x6), l7] (v.toList ++ [vR r2, vI s0]) h1 n1 Q)) : Rn (d + 1) (bc) (bs) mX2_passTide 112 [some (vR r0), some (vR (some ar1)), some (vR r2), some (vR r3), some (vI x4), some (vI x5), some (vI x6), l7] [vI s0] h n Q := by
  refine Rn_aload_n dX2_passTide_112 rfl rfl rfl ?_
  refine Rn_aload_n dX2_passTide_113 rfl rfl rfl ?_
  refine Rn_iload dX2_passTide_114 rfl ?_
  refine Rn_iconst dX2_passTide_116 rfl ?_
  exact Rn_callV (ci := 6) (avs := [vI x5, vI 1]) (st := [vR r2, vI s0]) (bc1 := 0) (bs1 := 0) (bc2 := bc) (bs2 := bs) fx_X6_get dX2_passTide_117 wd_883 wd_840 wd_841 rfl h2 rfl (Nat.le_of_ble_eq_true rfl) (Nat.le_of_ble_eq_true rfl) (by omega) (by omega) (ls1 := [some (vR (some ar1)), some (vI x5), some (vI 1), none]) rfl k
theorem BX2_passTide_120 {d bc bs : Nat} {h : aH} {n : Nat} {Q : aQ} {r0 r1 r2 r3 : Option Nat} {x4 x5 x6 s0 s2 : Int} {l7 : Option aV} {aq1 : Nat} {f1 : List aV} (h2 : h aq1 = cO 7 f1) (k : Rn d 0 0 mX7_placeOf 0 [some (vR (some aq1)), some (vI s2)] [] h n (fun v h1 n1 => Rn (d + 1) bc bs mX2_passTide 123 [some (vR r0), some (vR r1), some (vR r2), some (vR r3), some (vI x4), some (vI x5), some (vI x6), l7] (v.toList ++ [vI s0]) h1 n1 Q)) : Rn (d + 1) (bc) (bs) mX2_passTide 120 [some (vR r0), some (vR r1), some (vR r2), some (vR r3), some (vI x4), some (vI x5), some (vI x6), l7] [vI s2, vR (some aq1), vI s0] h n Q := by
  exact Rn_callV (ci := 7) (avs := [vI s2]) (st := [vI s0]) (bc1 := 0) (bs1 := 0) (bc2 := bc) (bs2 := bs) fx_X7_placeOf dX2_passTide_120 wd_921 wd_812 wd_813 rfl h2 rfl (Nat.le_of_ble_eq_true rfl) (Nat.le_of_ble_eq_true rfl) (by omega) (by omega) (ls1 := [some (vR (some aq1)), some (vI s2)]) rfl k
theorem BX2_passTide_123 {d bc bs : Nat} {h : aH} {n : Nat} {Q : aQ} {r0 r1 r2 r3 : Option Nat} {x4 x5 x6 s0 s1 : Int} {l7 : Option aV} (kt : s0 ≠ s1 → Rn d bc bs mX2_passTide 170 [some (vR r0), some (vR r1), some (vR r2), some (vR r3), some (vI x4), some (vI x5), some (vI x6), l7] [] h n Q) (kf : s0 = s1 → Rn d bc bs mX2_passTide 126 [some (vR r0), some (vR r1), some (vR r2), some (vR r3), some (vI x4), some (vI x5), some (vI x6), l7] [] h n Q) : Rn d (bc) (bs) mX2_passTide 123 [some (vR r0), some (vR r1), some (vR r2), some (vR r3), some (vI x4), some (vI x5), some (vI x6), l7] [vI s1, vI s0] h n Q := by
  refine Rn_icmpne (tgt := 170) dX2_passTide_123 rfl ?_ ?_
  · exact kt
  · exact kf
theorem BX2_passTide_126 {d bc bs : Nat} {h : aH} {n : Nat} {Q : aQ} {r0 r2 r3 : Option Nat} {ar1 : Nat} {x4 x5 x6 : Int} {l7 : Option aV} {f1 : List aV} (h2 : h ar1 = cO 6 f1) (k : Rn d 0 0 mX6_draw 0 [some (vR (some ar1)), none] [] h n (fun v h1 n1 => Rn (d + 1) bc bs mX2_passTide 130 [some (vR r0), some (vR (some ar1)), some (vR r2), some (vR r3), some (vI x4), some (vI x5), some (vI x6), l7] (v.toList ++ []) h1 n1 Q)) : Rn (d + 1) (bc) (bs) mX2_passTide 126 [some (vR r0), some (vR (some ar1)), some (vR r2), some (vR r3), some (vI x4), some (vI x5), some (vI x6), l7] [] h n Q := by
  refine Rn_aload_n dX2_passTide_126 rfl rfl rfl ?_
  exact Rn_callV (ci := 6) (avs := []) (st := []) (bc1 := 0) (bs1 := 0) (bc2 := bc) (bs2 := bs) fx_X6_draw dX2_passTide_127 wd_941 wd_942 wd_943 rfl h2 rfl (Nat.le_of_ble_eq_true rfl) (Nat.le_of_ble_eq_true rfl) (by omega) (by omega) (ls1 := [some (vR (some ar1)), none]) rfl k
theorem BX2_passTide_130 {d bc bs : Nat} {h : aH} {n : Nat} {Q : aQ} {ar0 : Nat} {r1 r2 r3 : Option Nat} {x4 x5 x6 s0 : Int} {l7 : Option aV} {f2 : List aV} (b1 : 0 ≤ s0) (h3 : h ar0 = cO 2 f2) (k : Rn d 0 0 mX2_comesOf 0 [some (vR (some ar0)), some (vR r3), some (vR r1), some (vR r2), some (vI x5)] [] h n (fun v h1 n1 => Rn (d + 1) bc bs mX2_passTide 146 [some (vR (some ar0)), some (vR r1), some (vR r2), some (vR r3), some (vI x4), some (vI x5), some (vI x6), some (vI (s0 % 10))] (v.toList ++ [vI (s0 % 10)]) h1 n1 Q)) : Rn (d + 1) (bc) (bs) mX2_passTide 130 [some (vR (some ar0)), some (vR r1), some (vR r2), some (vR r3), some (vI x4), some (vI x5), some (vI x6), l7] [vI s0] h n Q := by
  refine Rn_bipush dX2_passTide_130 rfl ?_
  refine Rn_irem dX2_passTide_132 (by decide) ?_
  rw [Int.tmod_eq_emod_of_nonneg b1]
  refine Rn_istore dX2_passTide_133 (Nat.le_of_ble_eq_true rfl) rfl rfl ?_
  refine Rn_iload dX2_passTide_135 rfl ?_
  refine Rn_aload_n dX2_passTide_137 rfl rfl rfl ?_
  refine Rn_aload_n dX2_passTide_138 rfl rfl rfl ?_
  refine Rn_aload_n dX2_passTide_139 rfl rfl rfl ?_
  refine Rn_aload_n dX2_passTide_140 rfl rfl rfl ?_
  refine Rn_iload dX2_passTide_141 rfl ?_
  exact Rn_callV (ci := 2) (avs := [vR r3, vR r1, vR r2, vI x5]) (st := [vI (s0 % 10)]) (bc1 := 0) (bs1 := 0) (bc2 := bc) (bs2 := bs) fx_X2_comesOf dX2_passTide_143 wd_945 wd_946 wd_947 rfl h3 rfl (Nat.le_of_ble_eq_true rfl) (Nat.le_of_ble_eq_true rfl) (by omega) (by omega) (ls1 := [some (vR (some ar0)), some (vR r3), some (vR r1), some (vR r2), some (vI x5)]) rfl k
theorem BX2_passTide_146 {d bc bs : Nat} {h : aH} {n : Nat} {Q : aQ} {r0 r1 r2 r3 : Option Nat} {x4 x5 x6 x7 s0 s1 : Int} (kt : s0 < s1 → Rn d bc bs mX2_passTide 152 [some (vR r0), some (vR r1), some (vR r2), some (vR r3), some (vI x4), some (vI x5), some (vI x6), some (vI x7)] [] h n Q) (kf : s1 ≤ s0 → Rn d bc bs mX2_passTide 149 [some (vR r0), some (vR r1), some (vR r2), some (vR r3), some (vI x4), some (vI x5), some (vI x6), some (vI x7)] [] h n Q) : Rn d (bc) (bs) mX2_passTide 146 [some (vR r0), some (vR r1), some (vR r2), some (vR r3), some (vI x4), some (vI x5), some (vI x6), some (vI x7)] [vI s1, vI s0] h n Q := by
  refine Rn_icmplt (tgt := 152) dX2_passTide_146 rfl ?_ ?_
  · exact kt
  · exact kf
theorem BX2_passTide_149 {d bc bs : Nat} {h : aH} {n : Nat} {Q : aQ} {r0 r1 r2 r3 : Option Nat} {x4 x5 x6 x7 : Int} (b1 : -2147483648 ≤ x5 + 1 ∧ x5 + 1 < 2147483648) (k : Rn d bc bs mX2_passTide 6 [some (vR r0), some (vR r1), some (vR r2), some (vR r3), some (vI x4), some (vI (x5 + 1)), some (vI x6), some (vI x7)] [] h n Q) : Rn d (bc) (bs) mX2_passTide 149 [some (vR r0), some (vR r1), some (vR r2), some (vR r3), some (vI x4), some (vI x5), some (vI x6), some (vI x7)] [] h n Q := by
  refine Rn_goto (tgt := 170) dX2_passTide_149 rfl ?_
  refine Rn_iinc dX2_passTide_170 rfl (Nat.le_of_ble_eq_true rfl) rfl rfl rfl ?_
  rw [w32_id b1.1 b1.2]
  refine Rn_goto (tgt := 6) dX2_passTide_173 rfl ?_
  exact k
theorem BX2_passTide_152 {d bc bs : Nat} {h : aH} {n : Nat} {Q : aQ} {r0 r2 r3 : Option Nat} {ar1 : Nat} {x4 x5 x6 x7 : Int} {f1 : List aV} (h2 : h ar1 = cO 6 f1) (k : Rn d 0 0 mX6_set 0 [some (vR (some ar1)), some (vI x5), some (vI 4), some (vI 1), none] [] h n (fun v h1 n1 => Rn (d + 1) bc bs mX2_passTide 160 [some (vR r0), some (vR (some ar1)), some (vR r2), some (vR r3), some (vI x4), some (vI x5), some (vI x6), some (vI x7)] (v.toList ++ []) h1 n1 Q)) : Rn (d + 1) (bc) (bs) mX2_passTide 152 [some (vR r0), some (vR (some ar1)), some (vR r2), some (vR r3), some (vI x4), some (vI x5), some (vI x6), some (vI x7)] [] h n Q := by
  refine Rn_aload_n dX2_passTide_152 rfl rfl rfl ?_
  refine Rn_iload dX2_passTide_153 rfl ?_
  refine Rn_iconst dX2_passTide_155 rfl ?_
  refine Rn_iconst dX2_passTide_156 rfl ?_
  exact Rn_callV (ci := 6) (avs := [vI x5, vI 4, vI 1]) (st := []) (bc1 := 0) (bs1 := 0) (bc2 := bc) (bs2 := bs) fx_X6_set dX2_passTide_157 wd_891 wd_820 wd_821 rfl h2 rfl (Nat.le_of_ble_eq_true rfl) (Nat.le_of_ble_eq_true rfl) (by omega) (by omega) (ls1 := [some (vR (some ar1)), some (vI x5), some (vI 4), some (vI 1), none]) rfl k
theorem BX2_passTide_160 {d bc bs : Nat} {h : aH} {n : Nat} {Q : aQ} {r0 r2 r3 : Option Nat} {ar1 : Nat} {x4 x5 x6 x7 : Int} {f1 : List aV} (h2 : h ar1 = cO 6 f1) (k : Rn d 0 0 mX6_writeDown 0 [some (vR (some ar1)), some (vI x5), some (vI 0)] [] h n (fun v h1 n1 => Rn (d + 1) bc bs mX2_passTide 167 [some (vR r0), some (vR (some ar1)), some (vR r2), some (vR r3), some (vI x4), some (vI x5), some (vI x6), some (vI x7)] (v.toList ++ []) h1 n1 Q)) : Rn (d + 1) (bc) (bs) mX2_passTide 160 [some (vR r0), some (vR (some ar1)), some (vR r2), some (vR r3), some (vI x4), some (vI x5), some (vI x6), some (vI x7)] [] h n Q := by
  refine Rn_aload_n dX2_passTide_160 rfl rfl rfl ?_
  refine Rn_iload dX2_passTide_161 rfl ?_
  refine Rn_iconst dX2_passTide_163 rfl ?_
  exact Rn_callV (ci := 6) (avs := [vI x5, vI 0]) (st := []) (bc1 := 0) (bs1 := 0) (bc2 := bc) (bs2 := bs) fx_X6_writeDown dX2_passTide_164 wd_940 wd_846 wd_847 rfl h2 rfl (Nat.le_of_ble_eq_true rfl) (Nat.le_of_ble_eq_true rfl) (by omega) (by omega) (ls1 := [some (vR (some ar1)), some (vI x5), some (vI 0)]) rfl k
theorem BX2_passTide_167 {d bc bs : Nat} {h : aH} {n : Nat} {Q : aQ} {r0 r1 r2 r3 : Option Nat} {x4 x5 x6 x7 : Int} (b1 : -2147483648 ≤ x4 + 1 ∧ x4 + 1 < 2147483648) (b2 : -2147483648 ≤ x5 + 1 ∧ x5 + 1 < 2147483648) (k : Rn d bc bs mX2_passTide 6 [some (vR r0), some (vR r1), some (vR r2), some (vR r3), some (vI (x4 + 1)), some (vI (x5 + 1)), some (vI x6), some (vI x7)] [] h n Q) : Rn d (bc) (bs) mX2_passTide 167 [some (vR r0), some (vR r1), some (vR r2), some (vR r3), some (vI x4), some (vI x5), some (vI x6), some (vI x7)] [] h n Q := by
  refine Rn_iinc dX2_passTide_167 rfl (Nat.le_of_ble_eq_true rfl) rfl rfl rfl ?_
  rw [w32_id b1.1 b1.2]
  refine Rn_iinc dX2_passTide_170 rfl (Nat.le_of_ble_eq_true rfl) rfl rfl rfl ?_
  rw [w32_id b2.1 b2.2]
  refine Rn_goto (tgt := 6) dX2_passTide_173 rfl ?_
  exact k
theorem BX2_passTide_170 {d bc bs : Nat} {h : aH} {n : Nat} {Q : aQ} {r0 r1 r2 r3 : Option Nat} {x4 x5 : Int} {l6 l7 : Option aV} (b1 : -2147483648 ≤ x5 + 1 ∧ x5 + 1 < 2147483648) (k : Rn d bc bs mX2_passTide 6 [some (vR r0), some (vR r1), some (vR r2), some (vR r3), some (vI x4), some (vI (x5 + 1)), l6, l7] [] h n Q) : Rn d (bc) (bs) mX2_passTide 170 [some (vR r0), some (vR r1), some (vR r2), some (vR r3), some (vI x4), some (vI x5), l6, l7] [] h n Q := by
  refine Rn_iinc dX2_passTide_170 rfl (Nat.le_of_ble_eq_true rfl) rfl rfl rfl ?_
  rw [w32_id b1.1 b1.2]
  refine Rn_goto (tgt := 6) dX2_passTide_173 rfl ?_
  exact k
theorem BX2_passTide_176 {d bc bs : Nat} {h : aH} {n : Nat} {Q : aQ} {r0 r2 r3 : Option Nat} {ar1 : Nat} {x4 x5 v3 : Int} {l6 l7 : Option aV} {f1 : List aV} (h2 : h ar1 = cO 6 f1) (g4 : f1[3]? = some (vI v3)) (b5 : -2147483648 ≤ v3 + 1 ∧ v3 + 1 < 2147483648) (m6 : 3 < f1.length) (k : Rn d bc bs mX2_passTide 186 [some (vR r0), some (vR (some ar1)), some (vR r2), some (vR r3), some (vI x4), some (vI x5), l6, l7] [] (up h ar1 (cO 6 (f1.set 3 (vI (v3 + 1))))) n Q) : Rn d (bc) (bs) mX2_passTide 176 [some (vR r0), some (vR (some ar1)), some (vR r2), some (vR r3), some (vI x4), some (vI x5), l6, l7] [] h n Q := by
  refine Rn_aload_n dX2_passTide_176 rfl rfl rfl ?_
  refine Rn_dup dX2_passTide_177 rfl ?_
  refine Rn_getfield (ci := 6) (k := 3) dX2_passTide_178 rfl in_6 (Nat.le_of_ble_eq_true rfl) wd_209 rfl h2 g4 ?_
  refine Rn_iconst dX2_passTide_181 rfl ?_
  refine Rn_iadd dX2_passTide_182 ?_
  rw [w32_id b5.1 b5.2]
  refine Rn_putfield (ci := 6) (k := 3) dX2_passTide_183 rfl in_6 tyX6_ok nmX6 (Nat.le_of_ble_eq_true rfl) wd_209 rfl (Or.inl rfl) trivial m6 h2 ?_
  exact k
theorem BX2_passTide_186 {d bc bs : Nat} {h : aH} {n : Nat} {Q : aQ} {r0 r1 r2 r3 : Option Nat} {x4 x5 : Int} {l6 l7 : Option aV} (k : Q (some (vI x4)) h n) : Rn d (bc) (bs) mX2_passTide 186 [some (vR r0), some (vR r1), some (vR r2), some (vR r3), some (vI x4), some (vI x5), l6, l7] [] h n Q := by
  refine Rn_iload dX2_passTide_186 rfl ?_
  exact Rn_ireturn rfl dX2_passTide_188 k
theorem dX2_comesOf_0 : decode cX2_comesOf 0 = .ok (.aload_n 1, 1) := by decide +kernel
theorem dX2_comesOf_1 : decode cX2_comesOf 1 = .ok (.ifnull 10, 3) := by decide +kernel
theorem dX2_comesOf_4 : decode cX2_comesOf 4 = .ok (.aload_n 1, 1) := by decide +kernel
theorem dX2_comesOf_5 : decode cX2_comesOf 5 = .ok (.getfield 64, 3) := by decide +kernel
theorem dX2_comesOf_8 : decode cX2_comesOf 8 = .ok (.ifnonnull 17, 3) := by decide +kernel
theorem dX2_comesOf_11 : decode cX2_comesOf 11 = .ok (.aload_n 3, 1) := by decide +kernel
theorem dX2_comesOf_12 : decode cX2_comesOf 12 = .ok (.aload_n 2, 1) := by decide +kernel
theorem dX2_comesOf_13 : decode cX2_comesOf 13 = .ok (.iload 4, 2) := by decide +kernel
theorem dX2_comesOf_15 : decode cX2_comesOf 15 = .ok (.iconst 1, 1) := by decide +kernel
theorem dX2_comesOf_16 : decode cX2_comesOf 16 = .ok (.invokevirtual 24, 3) := by decide +kernel
theorem dX2_comesOf_19 : decode cX2_comesOf 19 = .ok (.invokevirtual 69, 3) := by decide +kernel
theorem dX2_comesOf_22 : decode cX2_comesOf 22 = .ok (.iconst 1, 1) := by decide +kernel
theorem dX2_comesOf_23 : decode cX2_comesOf 23 = .ok (.iadd, 1) := by decide +kernel
theorem dX2_comesOf_24 : decode cX2_comesOf 24 = .ok (.ireturn, 1) := by decide +kernel
theorem dX2_comesOf_25 : decode cX2_comesOf 25 = .ok (.iconst 0, 1) := by decide +kernel
theorem dX2_comesOf_26 : decode cX2_comesOf 26 = .ok (.bipush 10, 2) := by decide +kernel
theorem dX2_comesOf_28 : decode cX2_comesOf 28 = .ok (.aload_n 0, 1) := by decide +kernel
theorem dX2_comesOf_29 : decode cX2_comesOf 29 = .ok (.aload_n 1, 1) := by decide +kernel
theorem dX2_comesOf_30 : decode cX2_comesOf 30 = .ok (.getfield 64, 3) := by decide +kernel
theorem dX2_comesOf_33 : decode cX2_comesOf 33 = .ok (.aload_n 2, 1) := by decide +kernel
theorem dX2_comesOf_34 : decode cX2_comesOf 34 = .ok (.aload_n 3, 1) := by decide +kernel
theorem dX2_comesOf_35 : decode cX2_comesOf 35 = .ok (.iload 4, 2) := by decide +kernel
theorem dX2_comesOf_37 : decode cX2_comesOf 37 = .ok (.invokevirtual 72, 3) := by decide +kernel
theorem dX2_comesOf_40 : decode cX2_comesOf 40 = .ok (.invokestatic 76, 3) := by decide +kernel
theorem dX2_comesOf_43 : decode cX2_comesOf 43 = .ok (.invokestatic 44, 3) := by decide +kernel
theorem dX2_comesOf_46 : decode cX2_comesOf 46 = .ok (.ireturn, 1) := by decide +kernel
theorem BX2_comesOf_0 {d bc bs : Nat} {h : aH} {n : Nat} {Q : aQ} {r0 r1 r2 r3 : Option Nat} {x4 : Int} (kt : r1 = none → Rn d bc bs mX2_comesOf 11 [some (vR r0), some (vR r1), some (vR r2), some (vR r3), some (vI x4)] [] h n Q) (kf : ∀ a, r1 = some a → Rn d bc bs mX2_comesOf 4 [some (vR r0), some (vR r1), some (vR r2), some (vR r3), some (vI x4)] [] h n Q) : Rn d (bc) (bs) mX2_comesOf 0 [some (vR r0), some (vR r1), some (vR r2), some (vR r3), some (vI x4)] [] h n Q := by
  refine Rn_aload_n dX2_comesOf_0 rfl rfl rfl ?_
  refine Rn_ifnull (tgt := 11) dX2_comesOf_1 rfl ?_ ?_
  · exact kt
  · exact kf
theorem BX2_comesOf_4 {d bc bs : Nat} {h : aH} {n : Nat} {Q : aQ} {r0 r2 r3 t3 : Option Nat} {ar1 : Nat} {x4 : Int} {f1 : List aV} (h2 : h ar1 = cO 10 f1) (g4 : f1[1]? = some (vR t3)) (kt : ∀ a, t3 = some a → Rn d bc bs mX2_comesOf 25 [some (vR r0), some (vR (some ar1)), some (vR r2), some (vR r3), some (vI x4)] [] h n Q) (kf : t3 = none → Rn d bc bs mX2_comesOf 11 [some (vR r0), some (vR (some ar1)), some (vR r2), some (vR r3), some (vI x4)] [] h n Q) : Rn d (bc) (bs) mX2_comesOf 4 [some (vR r0), some (vR (some ar1)), some (vR r2), some (vR r3), some (vI x4)] [] h n Q := by
  refine Rn_aload_n dX2_comesOf_4 rfl rfl rfl ?_
  refine Rn_getfield (ci := 10) (k := 1) dX2_comesOf_5 rfl in_10 (Nat.le_of_ble_eq_true rfl) wd_750 rfl h2 g4 ?_
  refine Rn_ifnonnull (tgt := 25) dX2_comesOf_8 rfl ?_ ?_
  · exact kt
  · exact kf
theorem BX2_comesOf_11 {d bc bs : Nat} {h : aH} {n : Nat} {Q : aQ} {r0 r1 r3 : Option Nat} {ar2 : Nat} {x4 : Int} {f1 : List aV} (h2 : h ar2 = cO 6 f1) (k : Rn d 0 0 mX6_get 0 [some (vR (some ar2)), some (vI x4), some (vI 1), none] [] h n (fun v h1 n1 => Rn (d + 1) bc bs mX2_comesOf 19 [some (vR r0), some (vR r1), some (vR (some ar2)), some (vR r3), some (vI x4)] (v.toList ++ [vR r3]) h1 n1 Q)) : Rn (d + 1) (bc) (bs) mX2_comesOf 11 [some (vR r0), some (vR r1), some (vR (some ar2)), some (vR r3), some (vI x4)] [] h n Q := by
  refine Rn_aload_n dX2_comesOf_11 rfl rfl rfl ?_
  refine Rn_aload_n dX2_comesOf_12 rfl rfl rfl ?_
  refine Rn_iload dX2_comesOf_13 rfl ?_
  refine Rn_iconst dX2_comesOf_15 rfl ?_
  exact Rn_callV (ci := 6) (avs := [vI x4, vI 1]) (st := [vR r3]) (bc1 := 0) (bs1 := 0) (bc2 := bc) (bs2 := bs) fx_X6_get dX2_comesOf_16 wd_883 wd_840 wd_841 rfl h2 rfl (Nat.le_of_ble_eq_true rfl) (Nat.le_of_ble_eq_true rfl) (by omega) (by omega) (ls1 := [some (vR (some ar2)), some (vI x4), some (vI 1), none]) rfl k
theorem BX2_comesOf_19 {d bc bs : Nat} {h : aH} {n : Nat} {Q : aQ} {r0 r1 r2 r3 : Option Nat} {x4 s1 : Int} {aq0 : Nat} {f1 : List aV} (h2 : h aq0 = cO 7 f1) (k : Rn d 0 0 mX7_luckOf 0 [some (vR (some aq0)), some (vI s1)] [] h n (fun v h1 n1 => Rn (d + 1) bc bs mX2_comesOf 22 [some (vR r0), some (vR r1), some (vR r2), some (vR r3), some (vI x4)] (v.toList ++ []) h1 n1 Q)) : Rn (d + 1) (bc) (bs) mX2_comesOf 19 [some (vR r0), some (vR r1), some (vR r2), some (vR r3), some (vI x4)] [vI s1, vR (some aq0)] h n Q := by
  exact Rn_callV (ci := 7) (avs := [vI s1]) (st := []) (bc1 := 0) (bs1 := 0) (bc2 := bc) (bs2 := bs) fx_X7_luckOf dX2_comesOf_19 wd_912 wd_913 wd_914 rfl h2 rfl (Nat.le_of_ble_eq_true rfl) (Nat.le_of_ble_eq_true rfl) (by omega) (by omega) (ls1 := [some (vR (some aq0)), some (vI s1)]) rfl k
theorem BX2_comesOf_22 {d bc bs : Nat} {h : aH} {n : Nat} {Q : aQ} {r0 r1 r2 r3 : Option Nat} {x4 s0 : Int} (b1 : -2147483648 ≤ s0 + 1 ∧ s0 + 1 < 2147483648) (k : Q (some (vI (s0 + 1))) h n) : Rn d (bc) (bs) mX2_comesOf 22 [some (vR r0), some (vR r1), some (vR r2), some (vR r3), some (vI x4)] [vI s0] h n Q := by
  refine Rn_iconst dX2_comesOf_22 rfl ?_
  refine Rn_iadd dX2_comesOf_23 ?_
  rw [w32_id b1.1 b1.2]
  exact Rn_ireturn rfl dX2_comesOf_24 k
theorem BX2_comesOf_25 {d bc bs : Nat} {h : aH} {n : Nat} {Q : aQ} {ar0 ar1 : Nat} {r2 r3 t3 : Option Nat} {x4 : Int} {f1 f5 : List aV} (h2 : h ar1 = cO 10 f1) (g4 : f1[1]? = some (vR t3)) (h6 : h ar0 = cO 2 f5) (k : Rn d 0 0 mX2_workOff 0 [some (vR (some ar0)), some (vR t3), some (vR r2), some (vR r3), some (vI x4), none, none, none, none] [] h n (fun v h1 n1 => Rn (d + 1) bc bs mX2_comesOf 40 [some (vR (some ar0)), some (vR (some ar1)), some (vR r2), some (vR r3), some (vI x4)] (v.toList ++ [vI 10, vI 0]) h1 n1 Q)) : Rn (d + 1) (bc) (bs) mX2_comesOf 25 [some (vR (some ar0)), some (vR (some ar1)), some (vR r2), some (vR r3), some (vI x4)] [] h n Q := by
  refine Rn_iconst dX2_comesOf_25 rfl ?_
  refine Rn_bipush dX2_comesOf_26 rfl ?_
  refine Rn_aload_n dX2_comesOf_28 rfl rfl rfl ?_
  refine Rn_aload_n dX2_comesOf_29 rfl rfl rfl ?_
  refine Rn_getfield (ci := 10) (k := 1) dX2_comesOf_30 rfl in_10 (Nat.le_of_ble_eq_true rfl) wd_750 rfl h2 g4 ?_
  refine Rn_aload_n dX2_comesOf_33 rfl rfl rfl ?_
  refine Rn_aload_n dX2_comesOf_34 rfl rfl rfl ?_
  refine Rn_iload dX2_comesOf_35 rfl ?_
  exact Rn_callV (ci := 2) (avs := [vR t3, vR r2, vR r3, vI x4]) (st := [vI 10, vI 0]) (bc1 := 0) (bs1 := 0) (bc2 := bc) (bs2 := bs) fx_X2_workOff dX2_comesOf_37 wd_896 wd_898 wd_33 rfl h6 rfl (Nat.le_of_ble_eq_true rfl) (Nat.le_of_ble_eq_true rfl) (by omega) (by omega) (ls1 := [some (vR (some ar0)), some (vR t3), some (vR r2), some (vR r3), some (vI x4), none, none, none, none]) rfl k
theorem BX2_comesOf_40 {d bc bs : Nat} {h : aH} {n : Nat} {Q : aQ} {r0 r1 r2 r3 : Option Nat} {x4 s0 s1 s2 : Int} (k : Rn d 0 0 mJ9_min_7cf53 0 [some (vI s1), some (vI s2)] [] h n (fun v h1 n1 => Rn (d + 1) bc bs mX2_comesOf 43 [some (vR r0), some (vR r1), some (vR r2), some (vR r3), some (vI x4)] (v.toList ++ [vI s0]) h1 n1 Q)) : Rn (d + 1) (bc) (bs) mX2_comesOf 40 [some (vR r0), some (vR r1), some (vR r2), some (vR r3), some (vI x4)] [vI s2, vI s1, vI s0] h n Q := by
  exact Rn_callS (avs := [vI s1, vI s2]) (st := [vI s0]) (bc1 := 0) (bs1 := 0) (bc2 := bc) (bs2 := bs) fx_J9_min_7cf53 dX2_comesOf_40 (Or.inl wd_939) wd_559 rfl (Nat.le_of_ble_eq_true rfl) (Nat.le_of_ble_eq_true rfl) (by omega) (by omega) (ls1 := [some (vI s1), some (vI s2)]) rfl k
theorem BX2_comesOf_43 {d bc bs : Nat} {h : aH} {n : Nat} {Q : aQ} {r0 r1 r2 r3 : Option Nat} {x4 s0 s1 : Int} (k : Rn d 0 0 mJ9_max_7cf53 0 [some (vI s0), some (vI s1)] [] h n (fun v h1 n1 => Rn (d + 1) bc bs mX2_comesOf 46 [some (vR r0), some (vR r1), some (vR r2), some (vR r3), some (vI x4)] (v.toList ++ []) h1 n1 Q)) : Rn (d + 1) (bc) (bs) mX2_comesOf 43 [some (vR r0), some (vR r1), some (vR r2), some (vR r3), some (vI x4)] [vI s1, vI s0] h n Q := by
  exact Rn_callS (avs := [vI s0, vI s1]) (st := []) (bc1 := 0) (bs1 := 0) (bc2 := bc) (bs2 := bs) fx_J9_max_7cf53 dX2_comesOf_43 (Or.inl wd_900) wd_717 rfl (Nat.le_of_ble_eq_true rfl) (Nat.le_of_ble_eq_true rfl) (by omega) (by omega) (ls1 := [some (vI s0), some (vI s1)]) rfl k
theorem BX2_comesOf_46 {d bc bs : Nat} {h : aH} {n : Nat} {Q : aQ} {r0 r1 r2 r3 : Option Nat} {x4 s0 : Int} (k : Q (some (vI s0)) h n) : Rn d (bc) (bs) mX2_comesOf 46 [some (vR r0), some (vR r1), some (vR r2), some (vR r3), some (vI x4)] [vI s0] h n Q := by
  exact Rn_ireturn rfl dX2_comesOf_46 k
theorem dX2_wearsOf_0 : decode cX2_wearsOf 0 = .ok (.aload_n 1, 1) := by decide +kernel
theorem dX2_wearsOf_1 : decode cX2_wearsOf 1 = .ok (.ifnull 10, 3) := by decide +kernel
theorem dX2_wearsOf_4 : decode cX2_wearsOf 4 = .ok (.aload_n 1, 1) := by decide +kernel
theorem dX2_wearsOf_5 : decode cX2_wearsOf 5 = .ok (.getfield 79, 3) := by decide +kernel
theorem dX2_wearsOf_8 : decode cX2_wearsOf 8 = .ok (.ifnonnull 5, 3) := by decide +kernel
theorem dX2_wearsOf_11 : decode cX2_wearsOf 11 = .ok (.iconst 1, 1) := by decide +kernel
theorem dX2_wearsOf_12 : decode cX2_wearsOf 12 = .ok (.ireturn, 1) := by decide +kernel
theorem dX2_wearsOf_13 : decode cX2_wearsOf 13 = .ok (.iconst 0, 1) := by decide +kernel
theorem dX2_wearsOf_14 : decode cX2_wearsOf 14 = .ok (.bipush 99, 2) := by decide +kernel
theorem dX2_wearsOf_16 : decode cX2_wearsOf 16 = .ok (.aload_n 0, 1) := by decide +kernel
theorem dX2_wearsOf_17 : decode cX2_wearsOf 17 = .ok (.aload_n 1, 1) := by decide +kernel
theorem dX2_wearsOf_18 : decode cX2_wearsOf 18 = .ok (.getfield 79, 3) := by decide +kernel
theorem dX2_wearsOf_21 : decode cX2_wearsOf 21 = .ok (.aload_n 2, 1) := by decide +kernel
theorem dX2_wearsOf_22 : decode cX2_wearsOf 22 = .ok (.aload_n 3, 1) := by decide +kernel
theorem dX2_wearsOf_23 : decode cX2_wearsOf 23 = .ok (.iload 4, 2) := by decide +kernel
theorem dX2_wearsOf_25 : decode cX2_wearsOf 25 = .ok (.invokevirtual 72, 3) := by decide +kernel
theorem dX2_wearsOf_28 : decode cX2_wearsOf 28 = .ok (.invokestatic 76, 3) := by decide +kernel
theorem dX2_wearsOf_31 : decode cX2_wearsOf 31 = .ok (.invokestatic 44, 3) := by decide +kernel
theorem dX2_wearsOf_34 : decode cX2_wearsOf 34 = .ok (.ireturn, 1) := by decide +kernel
theorem BX2_wearsOf_0 {d bc bs : Nat} {h : aH} {n : Nat} {Q : aQ} {r0 r1 r2 r3 : Option Nat} {x4 : Int} (kt : r1 = none → Rn d bc bs mX2_wearsOf 11 [some (vR r0), some (vR r1), some (vR r2), some (vR r3), some (vI x4)] [] h n Q) (kf : ∀ a, r1 = some a → Rn d bc bs mX2_wearsOf 4 [some (vR r0), some (vR r1), some (vR r2), some (vR r3), some (vI x4)] [] h n Q) : Rn d (bc) (bs) mX2_wearsOf 0 [some (vR r0), some (vR r1), some (vR r2), some (vR r3), some (vI x4)] [] h n Q := by
  refine Rn_aload_n dX2_wearsOf_0 rfl rfl rfl ?_
  refine Rn_ifnull (tgt := 11) dX2_wearsOf_1 rfl ?_ ?_
  · exact kt
  · exact kf
theorem BX2_wearsOf_4 {d bc bs : Nat} {h : aH} {n : Nat} {Q : aQ} {r0 r2 r3 t3 : Option Nat} {ar1 : Nat} {x4 : Int} {f1 : List aV} (h2 : h ar1 = cO 10 f1) (g4 : f1[2]? = some (vR t3)) (kt : ∀ a, t3 = some a → Rn d bc bs mX2_wearsOf 13 [some (vR r0), some (vR (some ar1)), some (vR r2), some (vR r3), some (vI x4)] [] h n Q) (kf : t3 = none → Rn d bc bs mX2_wearsOf 11 [some (vR r0), some (vR (some ar1)), some (vR r2), some (vR r3), some (vI x4)] [] h n Q) : Rn d (bc) (bs) mX2_wearsOf 4 [some (vR r0), some (vR (some ar1)), some (vR r2), some (vR r3), some (vI x4)] [] h n Q := by
  refine Rn_aload_n dX2_wearsOf_4 rfl rfl rfl ?_
  refine Rn_getfield (ci := 10) (k := 2) dX2_wearsOf_5 rfl in_10 (Nat.le_of_ble_eq_true rfl) wd_752 rfl h2 g4 ?_
  refine Rn_ifnonnull (tgt := 13) dX2_wearsOf_8 rfl ?_ ?_
  · exact kt
  · exact kf
theorem BX2_wearsOf_11 {d bc bs : Nat} {h : aH} {n : Nat} {Q : aQ} {r0 r1 r2 r3 : Option Nat} {x4 : Int} (k : Q (some (vI 1)) h n) : Rn d (bc) (bs) mX2_wearsOf 11 [some (vR r0), some (vR r1), some (vR r2), some (vR r3), some (vI x4)] [] h n Q := by
  refine Rn_iconst dX2_wearsOf_11 rfl ?_
  exact Rn_ireturn rfl dX2_wearsOf_12 k
theorem BX2_wearsOf_13 {d bc bs : Nat} {h : aH} {n : Nat} {Q : aQ} {ar0 ar1 : Nat} {r2 r3 t3 : Option Nat} {x4 : Int} {f1 f5 : List aV} (h2 : h ar1 = cO 10 f1) (g4 : f1[2]? = some (vR t3)) (h6 : h ar0 = cO 2 f5) (k : Rn d 0 0 mX2_workOff 0 [some (vR (some ar0)), some (vR t3), some (vR r2), some (vR r3), some (vI x4), none, none, none, none] [] h n (fun v h1 n1 => Rn (d + 1) bc bs mX2_wearsOf 28 [some (vR (some ar0)), some (vR (some ar1)), some (vR r2), some (vR r3), some (vI x4)] (v.toList ++ [vI 99, vI 0]) h1 n1 Q)) : Rn (d + 1) (bc) (bs) mX2_wearsOf 13 [some (vR (some ar0)), some (vR (some ar1)), some (vR r2), some (vR r3), some (vI x4)] [] h n Q := by
  refine Rn_iconst dX2_wearsOf_13 rfl ?_
  refine Rn_bipush dX2_wearsOf_14 rfl ?_
  refine Rn_aload_n dX2_wearsOf_16 rfl rfl rfl ?_
  refine Rn_aload_n dX2_wearsOf_17 rfl rfl rfl ?_
  refine Rn_getfield (ci := 10) (k := 2) dX2_wearsOf_18 rfl in_10 (Nat.le_of_ble_eq_true rfl) wd_752 rfl h2 g4 ?_
  refine Rn_aload_n dX2_wearsOf_21 rfl rfl rfl ?_
  refine Rn_aload_n dX2_wearsOf_22 rfl rfl rfl ?_
  refine Rn_iload dX2_wearsOf_23 rfl ?_
  exact Rn_callV (ci := 2) (avs := [vR t3, vR r2, vR r3, vI x4]) (st := [vI 99, vI 0]) (bc1 := 0) (bs1 := 0) (bc2 := bc) (bs2 := bs) fx_X2_workOff dX2_wearsOf_25 wd_896 wd_898 wd_33 rfl h6 rfl (Nat.le_of_ble_eq_true rfl) (Nat.le_of_ble_eq_true rfl) (by omega) (by omega) (ls1 := [some (vR (some ar0)), some (vR t3), some (vR r2), some (vR r3), some (vI x4), none, none, none, none]) rfl k
theorem BX2_wearsOf_28 {d bc bs : Nat} {h : aH} {n : Nat} {Q : aQ} {r0 r1 r2 r3 : Option Nat} {x4 s0 s1 s2 : Int} (k : Rn d 0 0 mJ9_min_7cf53 0 [some (vI s1), some (vI s2)] [] h n (fun v h1 n1 => Rn (d + 1) bc bs mX2_wearsOf 31 [some (vR r0), some (vR r1), some (vR r2), some (vR r3), some (vI x4)] (v.toList ++ [vI s0]) h1 n1 Q)) : Rn (d + 1) (bc) (bs) mX2_wearsOf 28 [some (vR r0), some (vR r1), some (vR r2), some (vR r3), some (vI x4)] [vI s2, vI s1, vI s0] h n Q := by
  exact Rn_callS (avs := [vI s1, vI s2]) (st := [vI s0]) (bc1 := 0) (bs1 := 0) (bc2 := bc) (bs2 := bs) fx_J9_min_7cf53 dX2_wearsOf_28 (Or.inl wd_939) wd_559 rfl (Nat.le_of_ble_eq_true rfl) (Nat.le_of_ble_eq_true rfl) (by omega) (by omega) (ls1 := [some (vI s1), some (vI s2)]) rfl k
theorem BX2_wearsOf_31 {d bc bs : Nat} {h : aH} {n : Nat} {Q : aQ} {r0 r1 r2 r3 : Option Nat} {x4 s0 s1 : Int} (k : Rn d 0 0 mJ9_max_7cf53 0 [some (vI s0), some (vI s1)] [] h n (fun v h1 n1 => Rn (d + 1) bc bs mX2_wearsOf 34 [some (vR r0), some (vR r1), some (vR r2), some (vR r3), some (vI x4)] (v.toList ++ []) h1 n1 Q)) : Rn (d + 1) (bc) (bs) mX2_wearsOf 31 [some (vR r0), some (vR r1), some (vR r2), some (vR r3), some (vI x4)] [vI s1, vI s0] h n Q := by
  exact Rn_callS (avs := [vI s0, vI s1]) (st := []) (bc1 := 0) (bs1 := 0) (bc2 := bc) (bs2 := bs) fx_J9_max_7cf53 dX2_wearsOf_31 (Or.inl wd_900) wd_717 rfl (Nat.le_of_ble_eq_true rfl) (Nat.le_of_ble_eq_true rfl) (by omega) (by omega) (ls1 := [some (vI s0), some (vI s1)]) rfl k
theorem BX2_wearsOf_34 {d bc bs : Nat} {h : aH} {n : Nat} {Q : aQ} {r0 r1 r2 r3 : Option Nat} {x4 s0 : Int} (k : Q (some (vI s0)) h n) : Rn d (bc) (bs) mX2_wearsOf 34 [some (vR r0), some (vR r1), some (vR r2), some (vR r3), some (vI x4)] [vI s0] h n Q := by
  exact Rn_ireturn rfl dX2_wearsOf_34 k
theorem dX2_workOff_0 : decode cX2_workOff 0 = .ok (.aload_n 0, 1) := by decide +kernel
theorem dX2_workOff_1 : decode cX2_workOff 1 = .ok (.iconst 0, 1) := by decide +kernel
theorem dX2_workOff_2 : decode cX2_workOff 2 = .ok (.putfield 15, 3) := by decide +kernel
theorem dX2_workOff_5 : decode cX2_workOff 5 = .ok (.iconst 0, 1) := by decide +kernel
theorem dX2_workOff_6 : decode cX2_workOff 6 = .ok (.istore 5, 2) := by decide +kernel
theorem dX2_workOff_8 : decode cX2_workOff 8 = .ok (.iload 5, 2) := by decide +kernel
theorem dX2_workOff_10 : decode cX2_workOff 10 = .ok (.ifCond .lt 216, 3) := by decide +kernel
theorem dX2_workOff_13 : decode cX2_workOff 13 = .ok (.iload 5, 2) := by decide +kernel
theorem dX2_workOff_15 : decode cX2_workOff 15 = .ok (.aload_n 1, 1) := by decide +kernel
theorem dX2_workOff_16 : decode cX2_workOff 16 = .ok (.arraylength, 1) := by decide +kernel
theorem dX2_workOff_17 : decode cX2_workOff 17 = .ok (.if_icmp .ge 209, 3) := by decide +kernel
theorem dX2_workOff_20 : decode cX2_workOff 20 = .ok (.aload_n 1, 1) := by decide +kernel
theorem dX2_workOff_21 : decode cX2_workOff 21 = .ok (.iload 5, 2) := by decide +kernel
theorem dX2_workOff_23 : decode cX2_workOff 23 = .ok (.iaload, 1) := by decide +kernel
theorem dX2_workOff_24 : decode cX2_workOff 24 = .ok (.bipush 64, 2) := by decide +kernel
theorem dX2_workOff_26 : decode cX2_workOff 26 = .ok (.irem, 1) := by decide +kernel
theorem dX2_workOff_27 : decode cX2_workOff 27 = .ok (.istore 6, 2) := by decide +kernel
theorem dX2_workOff_29 : decode cX2_workOff 29 = .ok (.aload_n 1, 1) := by decide +kernel
theorem dX2_workOff_30 : decode cX2_workOff 30 = .ok (.iload 5, 2) := by decide +kernel
theorem dX2_workOff_32 : decode cX2_workOff 32 = .ok (.iaload, 1) := by decide +kernel
theorem dX2_workOff_33 : decode cX2_workOff 33 = .ok (.bipush 64, 2) := by decide +kernel
theorem dX2_workOff_35 : decode cX2_workOff 35 = .ok (.idiv, 1) := by decide +kernel
theorem dX2_workOff_36 : decode cX2_workOff 36 = .ok (.istore 7, 2) := by decide +kernel
theorem dX2_workOff_38 : decode cX2_workOff 38 = .ok (.iload 6, 2) := by decide +kernel
theorem dX2_workOff_40 : decode cX2_workOff 40 = .ok (.bipush 51, 2) := by decide +kernel
theorem dX2_workOff_42 : decode cX2_workOff 42 = .ok (.if_icmp .ne 17, 3) := by decide +kernel
theorem dX2_workOff_45 : decode cX2_workOff 45 = .ok (.iload 5, 2) := by decide +kernel
theorem dX2_workOff_47 : decode cX2_workOff 47 = .ok (.iconst 0, 1) := by decide +kernel
theorem dX2_workOff_48 : decode cX2_workOff 48 = .ok (.iload 7, 2) := by decide +kernel
theorem dX2_workOff_50 : decode cX2_workOff 50 = .ok (.invokestatic 44, 3) := by decide +kernel
theorem dX2_workOff_53 : decode cX2_workOff 53 = .ok (.iadd, 1) := by decide +kernel
theorem dX2_workOff_54 : decode cX2_workOff 54 = .ok (.istore 5, 2) := by decide +kernel
theorem dX2_workOff_56 : decode cX2_workOff 56 = .ok (.goto 164, 3) := by decide +kernel
theorem dX2_workOff_59 : decode cX2_workOff 59 = .ok (.iload 6, 2) := by decide +kernel
theorem dX2_workOff_61 : decode cX2_workOff 61 = .ok (.bipush 52, 2) := by decide +kernel
theorem dX2_workOff_63 : decode cX2_workOff 63 = .ok (.if_icmp .ne 24, 3) := by decide +kernel
theorem dX2_workOff_66 : decode cX2_workOff 66 = .ok (.aload_n 0, 1) := by decide +kernel
theorem dX2_workOff_67 : decode cX2_workOff 67 = .ok (.invokevirtual 82, 3) := by decide +kernel
theorem dX2_workOff_70 : decode cX2_workOff 70 = .ok (.ifCond .ne 150, 3) := by decide +kernel
theorem dX2_workOff_73 : decode cX2_workOff 73 = .ok (.iload 5, 2) := by decide +kernel
theorem dX2_workOff_75 : decode cX2_workOff 75 = .ok (.iconst 0, 1) := by decide +kernel
theorem dX2_workOff_76 : decode cX2_workOff 76 = .ok (.iload 7, 2) := by decide +kernel
theorem dX2_workOff_78 : decode cX2_workOff 78 = .ok (.invokestatic 44, 3) := by decide +kernel
theorem dX2_workOff_81 : decode cX2_workOff 81 = .ok (.iadd, 1) := by decide +kernel
theorem dX2_workOff_82 : decode cX2_workOff 82 = .ok (.istore 5, 2) := by decide +kernel
theorem dX2_workOff_84 : decode cX2_workOff 84 = .ok (.goto 136, 3) := by decide +kernel
theorem dX2_workOff_87 : decode cX2_workOff 87 = .ok (.iload 6, 2) := by decide +kernel
theorem dX2_workOff_89 : decode cX2_workOff 89 = .ok (.iconst 2, 1) := by decide +kernel
theorem dX2_workOff_90 : decode cX2_workOff 90 = .ok (.if_icmp .ne 12, 3) := by decide +kernel
theorem dX2_workOff_93 : decode cX2_workOff 93 = .ok (.aload_n 0, 1) := by decide +kernel
theorem dX2_workOff_94 : decode cX2_workOff 94 = .ok (.iload 7, 2) := by decide +kernel
theorem dX2_workOff_96 : decode cX2_workOff 96 = .ok (.invokevirtual 87, 3) := by decide +kernel
theorem dX2_workOff_99 : decode cX2_workOff 99 = .ok (.goto 121, 3) := by decide +kernel
theorem dX2_workOff_102 : decode cX2_workOff 102 = .ok (.iload 6, 2) := by decide +kernel
theorem dX2_workOff_104 : decode cX2_workOff 104 = .ok (.bipush 23, 2) := by decide +kernel
theorem dX2_workOff_106 : decode cX2_workOff 106 = .ok (.if_icmp .lt 26, 3) := by decide +kernel
theorem dX2_workOff_109 : decode cX2_workOff 109 = .ok (.iload 6, 2) := by decide +kernel
theorem dX2_workOff_111 : decode cX2_workOff 111 = .ok (.bipush 30, 2) := by decide +kernel
theorem dX2_workOff_113 : decode cX2_workOff 113 = .ok (.if_icmp .gt 19, 3) := by decide +kernel
theorem dX2_workOff_116 : decode cX2_workOff 116 = .ok (.aload_n 0, 1) := by decide +kernel
theorem dX2_workOff_117 : decode cX2_workOff 117 = .ok (.iload 6, 2) := by decide +kernel
theorem dX2_workOff_119 : decode cX2_workOff 119 = .ok (.aload_n 2, 1) := by decide +kernel
theorem dX2_workOff_120 : decode cX2_workOff 120 = .ok (.aload_n 3, 1) := by decide +kernel
theorem dX2_workOff_121 : decode cX2_workOff 121 = .ok (.iload 4, 2) := by decide +kernel
theorem dX2_workOff_123 : decode cX2_workOff 123 = .ok (.invokestatic 91, 3) := by decide +kernel
theorem dX2_workOff_126 : decode cX2_workOff 126 = .ok (.invokevirtual 87, 3) := by decide +kernel
theorem dX2_workOff_129 : decode cX2_workOff 129 = .ok (.goto 91, 3) := by decide +kernel
theorem dX2_workOff_132 : decode cX2_workOff 132 = .ok (.iload 6, 2) := by decide +kernel
theorem dX2_workOff_134 : decode cX2_workOff 134 = .ok (.bipush 34, 2) := by decide +kernel
theorem dX2_workOff_136 : decode cX2_workOff 136 = .ok (.if_icmp .ne 18, 3) := by decide +kernel
theorem dX2_workOff_139 : decode cX2_workOff 139 = .ok (.aload_n 0, 1) := by decide +kernel
theorem dX2_workOff_140 : decode cX2_workOff 140 = .ok (.aload_n 3, 1) := by decide +kernel
theorem dX2_workOff_141 : decode cX2_workOff 141 = .ok (.aload_n 0, 1) := by decide +kernel
theorem dX2_workOff_142 : decode cX2_workOff 142 = .ok (.invokevirtual 82, 3) := by decide +kernel
theorem dX2_workOff_145 : decode cX2_workOff 145 = .ok (.invokevirtual 53, 3) := by decide +kernel
theorem dX2_workOff_148 : decode cX2_workOff 148 = .ok (.invokevirtual 87, 3) := by decide +kernel
theorem dX2_workOff_151 : decode cX2_workOff 151 = .ok (.goto 69, 3) := by decide +kernel
theorem dX2_workOff_154 : decode cX2_workOff 154 = .ok (.iload 6, 2) := by decide +kernel
theorem dX2_workOff_156 : decode cX2_workOff 156 = .ok (.bipush 50, 2) := by decide +kernel
theorem dX2_workOff_158 : decode cX2_workOff 158 = .ok (.if_icmp .ne 15, 3) := by decide +kernel
theorem dX2_workOff_161 : decode cX2_workOff 161 = .ok (.aload_n 0, 1) := by decide +kernel
theorem dX2_workOff_162 : decode cX2_workOff 162 = .ok (.aload_n 0, 1) := by decide +kernel
theorem dX2_workOff_163 : decode cX2_workOff 163 = .ok (.invokevirtual 82, 3) := by decide +kernel
theorem dX2_workOff_166 : decode cX2_workOff 166 = .ok (.ineg, 1) := by decide +kernel
theorem dX2_workOff_167 : decode cX2_workOff 167 = .ok (.invokevirtual 87, 3) := by decide +kernel
theorem dX2_workOff_170 : decode cX2_workOff 170 = .ok (.goto 50, 3) := by decide +kernel
theorem dX2_workOff_173 : decode cX2_workOff 173 = .ok (.iload 6, 2) := by decide +kernel
theorem dX2_workOff_175 : decode cX2_workOff 175 = .ok (.bipush 41, 2) := by decide +kernel
theorem dX2_workOff_177 : decode cX2_workOff 177 = .ok (.if_icmp .ne 22, 3) := by decide +kernel
theorem dX2_workOff_180 : decode cX2_workOff 180 = .ok (.aload_n 0, 1) := by decide +kernel
theorem dX2_workOff_181 : decode cX2_workOff 181 = .ok (.aload_n 0, 1) := by decide +kernel
theorem dX2_workOff_182 : decode cX2_workOff 182 = .ok (.invokevirtual 82, 3) := by decide +kernel
theorem dX2_workOff_185 : decode cX2_workOff 185 = .ok (.ifCond .ne 7, 3) := by decide +kernel
theorem dX2_workOff_188 : decode cX2_workOff 188 = .ok (.iconst 1, 1) := by decide +kernel
theorem dX2_workOff_189 : decode cX2_workOff 189 = .ok (.goto 4, 3) := by decide +kernel
theorem dX2_workOff_192 : decode cX2_workOff 192 = .ok (.iconst 0, 1) := by decide +kernel
theorem dX2_workOff_193 : decode cX2_workOff 193 = .ok (.invokevirtual 87, 3) := by decide +kernel
theorem dX2_workOff_196 : decode cX2_workOff 196 = .ok (.goto 24, 3) := by decide +kernel
theorem dX2_workOff_199 : decode cX2_workOff 199 = .ok (.aload_n 0, 1) := by decide +kernel
theorem dX2_workOff_200 : decode cX2_workOff 200 = .ok (.invokevirtual 82, 3) := by decide +kernel
theorem dX2_workOff_203 : decode cX2_workOff 203 = .ok (.istore 8, 2) := by decide +kernel
theorem dX2_workOff_205 : decode cX2_workOff 205 = .ok (.aload_n 0, 1) := by decide +kernel
theorem dX2_workOff_206 : decode cX2_workOff 206 = .ok (.iload 6, 2) := by decide +kernel
theorem dX2_workOff_208 : decode cX2_workOff 208 = .ok (.aload_n 0, 1) := by decide +kernel
theorem dX2_workOff_209 : decode cX2_workOff 209 = .ok (.invokevirtual 82, 3) := by decide +kernel
theorem dX2_workOff_212 : decode cX2_workOff 212 = .ok (.iload 8, 2) := by decide +kernel
theorem dX2_workOff_214 : decode cX2_workOff 214 = .ok (.invokestatic 95, 3) := by decide +kernel
theorem dX2_workOff_217 : decode cX2_workOff 217 = .ok (.invokevirtual 87, 3) := by decide +kernel
theorem dX2_workOff_220 : decode cX2_workOff 220 = .ok (.iinc 5 1, 3) := by decide +kernel
theorem dX2_workOff_223 : decode cX2_workOff 223 = .ok (.goto (-215), 3) := by decide +kernel
theorem dX2_workOff_226 : decode cX2_workOff 226 = .ok (.aload_n 0, 1) := by decide +kernel
theorem dX2_workOff_227 : decode cX2_workOff 227 = .ok (.invokevirtual 82, 3) := by decide +kernel
theorem dX2_workOff_230 : decode cX2_workOff 230 = .ok (.ireturn, 1) := by decide +kernel
theorem BX2_workOff_0 {d bc bs : Nat} {h : aH} {n : Nat} {Q : aQ} {ar0 : Nat} {r1 r2 r3 : Option Nat} {x4 : Int} {l5 l6 l7 l8 : Option aV} {f1 : List aV} (h2 : h ar0 = cO 2 f1) (m3 : 1 < f1.length) (k : Rn d bc bs mX2_workOff 5 [some (vR (some ar0)), some (vR r1), some (vR r2), some (vR r3), some (vI x4), l5, l6, l7, l8] [] (up h ar0 (cO 2 (f1.set 1 (vI 0)))) n Q) : Rn d (bc) (bs) mX2_workOff 0 [some (vR (some ar0)), some (vR r1), some (vR r2), some (vR r3), some (vI x4), l5, l6, l7, l8] [] h n Q := by
  refine Rn_aload_n dX2_workOff_0 rfl rfl rfl ?_
  refine Rn_iconst dX2_workOff_1 rfl ?_
  refine Rn_putfield (ci := 2) (k := 1) dX2_workOff_2 rfl in_2 tyX2_ok nmX2 (Nat.le_of_ble_eq_true rfl) wd_395 rfl (Or.inl rfl) trivial m3 h2 ?_
  exact k
theorem BX2_workOff_5 {d bc bs : Nat} {h : aH} {n : Nat} {Q : aQ} {r0 r1 r2 r3 : Option Nat} {x4 : Int} {l5 l6 l7 l8 : Option aV} (k : Rn d bc bs mX2_workOff 8 [some (vR r0), some (vR r1), some (vR r2), some (vR r3), some (vI x4), some (vI 0), l6, l7, l8] [] h n Q) : Rn d (bc) (bs) mX2_workOff 5 [some (vR r0), some (vR r1), some (vR r2), some (vR r3), some (vI x4), l5, l6, l7, l8] [] h n Q := by
  refine Rn_iconst dX2_workOff_5 rfl ?_
  refine Rn_istore dX2_workOff_6 (Nat.le_of_ble_eq_true rfl) rfl rfl ?_
  exact k
theorem BX2_workOff_8 {d bc bs : Nat} {h : aH} {n : Nat} {Q : aQ} {r0 r1 r2 r3 : Option Nat} {x4 x5 : Int} {l6 l7 l8 : Option aV} (kt : x5 < 0 → Rn d bc bs mX2_workOff 226 [some (vR r0), some (vR r1), some (vR r2), some (vR r3), some (vI x4), some (vI x5), l6, l7, l8] [] h n Q) (kf : 0 ≤ x5 → Rn d bc bs mX2_workOff 13 [some (vR r0), some (vR r1), some (vR r2), some (vR r3), some (vI x4), some (vI x5), l6, l7, l8] [] h n Q) : Rn d (bc) (bs) mX2_workOff 8 [some (vR r0), some (vR r1), some (vR r2), some (vR r3), some (vI x4), some (vI x5), l6, l7, l8] [] h n Q := by
  refine Rn_iload dX2_workOff_8 rfl ?_
  refine Rn_iflt (tgt := 226) dX2_workOff_10 rfl ?_ ?_
  · exact kt
  · exact kf
theorem BX2_workOff_13 {d bc bs : Nat} {h : aH} {n : Nat} {Q : aQ} {r0 r2 r3 : Option Nat} {ar1 : Nat} {x4 x5 : Int} {l6 l7 l8 : Option aV} {w1 : List Int} (h2 : h ar1 = cI w1) (y3 : w1.length < 2147483648) (z4 : ar1 ≠ 0) (kt : (w1.length : Int) ≤ x5 → Rn d bc bs mX2_workOff 226 [some (vR r0), some (vR (some ar1)), some (vR r2), some (vR r3), some (vI x4), some (vI x5), l6, l7, l8] [] h n Q) (kf : x5 < (w1.length : Int) → Rn d bc bs mX2_workOff 20 [some (vR r0), some (vR (some ar1)), some (vR r2), some (vR r3), some (vI x4), some (vI x5), l6, l7, l8] [] h n Q) : Rn d (bc) (bs) mX2_workOff 13 [some (vR r0), some (vR (some ar1)), some (vR r2), some (vR r3), some (vI x4), some (vI x5), l6, l7, l8] [] h n Q := by
  refine Rn_iload dX2_workOff_13 rfl ?_
  refine Rn_aload_n dX2_workOff_15 rfl rfl rfl ?_
  refine Rn_alenI dX2_workOff_16 z4 h2 y3 ?_
  refine Rn_icmpge (tgt := 226) dX2_workOff_17 rfl ?_ ?_
  · exact kt
  · exact kf
theorem BX2_workOff_20 {d bc bs : Nat} {h : aH} {n : Nat} {Q : aQ} {r0 r2 r3 : Option Nat} {ar1 : Nat} {x4 x5 v3 : Int} {l6 l7 l8 : Option aV} {w1 : List Int} (h2 : h ar1 = cI w1) (i4 : 0 ≤ x5) (g5 : w1[(x5 : Int).toNat]? = some v3) (b6 : 0 ≤ v3) (b7 : -2147483648 ≤ v3 / 64 ∧ v3 / 64 < 2147483648) (kt : (v3 % 64) ≠ 51 → Rn d bc bs mX2_workOff 59 [some (vR r0), some (vR (some ar1)), some (vR r2), some (vR r3), some (vI x4), some (vI x5), some (vI (v3 % 64)), some (vI (v3 / 64)), l8] [] h n Q) (kf : (v3 % 64) = 51 → Rn d bc bs mX2_workOff 45 [some (vR r0), some (vR (some ar1)), some (vR r2), some (vR r3), some (vI x4), some (vI x5), some (vI (v3 % 64)), some (vI (v3 / 64)), l8] [] h n Q) : Rn d (bc) (bs) mX2_workOff 20 [some (vR r0), some (vR (some ar1)), some (vR r2), some (vR r3), some (vI x4), some (vI x5), l6, l7, l8] [] h n Q := by
  refine Rn_aload_n dX2_workOff_20 rfl rfl rfl ?_
  refine Rn_iload dX2_workOff_21 rfl ?_
  refine Rn_iaload dX2_workOff_23 h2 i4 g5 ?_
  refine Rn_bipush dX2_workOff_24 rfl ?_
  refine Rn_irem dX2_workOff_26 (by decide) ?_
  rw [Int.tmod_eq_emod_of_nonneg b6]
  refine Rn_istore dX2_workOff_27 (Nat.le_of_ble_eq_true rfl) rfl rfl ?_
  refine Rn_aload_n dX2_workOff_29 rfl rfl rfl ?_
  refine Rn_iload dX2_workOff_30 rfl ?_
  refine Rn_iaload dX2_workOff_32 h2 i4 g5 ?_
  refine Rn_bipush dX2_workOff_33 rfl ?_
  refine Rn_idiv dX2_workOff_35 (by decide) ?_
  rw [Int.tdiv_eq_ediv_of_nonneg b6]
  rw [w32_id b7.1 b7.2]
  refine Rn_istore dX2_workOff_36 (Nat.le_of_ble_eq_true rfl) rfl rfl ?_
  refine Rn_iload dX2_workOff_38 rfl ?_
  refine Rn_bipush dX2_workOff_40 rfl ?_
  refine Rn_icmpne (tgt := 59) dX2_workOff_42 rfl ?_ ?_
  · exact kt
  · exact kf
theorem BX2_workOff_45 {d bc bs : Nat} {h : aH} {n : Nat} {Q : aQ} {r0 r1 r2 r3 : Option Nat} {x4 x5 x6 x7 : Int} {l8 : Option aV} (k : Rn d 0 0 mJ9_max_7cf53 0 [some (vI 0), some (vI x7)] [] h n (fun v h1 n1 => Rn (d + 1) bc bs mX2_workOff 53 [some (vR r0), some (vR r1), some (vR r2), some (vR r3), some (vI x4), some (vI x5), some (vI x6), some (vI x7), l8] (v.toList ++ [vI x5]) h1 n1 Q)) : Rn (d + 1) (bc) (bs) mX2_workOff 45 [some (vR r0), some (vR r1), some (vR r2), some (vR r3), some (vI x4), some (vI x5), some (vI x6), some (vI x7), l8] [] h n Q := by
  refine Rn_iload dX2_workOff_45 rfl ?_
  refine Rn_iconst dX2_workOff_47 rfl ?_
  refine Rn_iload dX2_workOff_48 rfl ?_
  exact Rn_callS (avs := [vI 0, vI x7]) (st := [vI x5]) (bc1 := 0) (bs1 := 0) (bc2 := bc) (bs2 := bs) fx_J9_max_7cf53 dX2_workOff_50 (Or.inl wd_900) wd_717 rfl (Nat.le_of_ble_eq_true rfl) (Nat.le_of_ble_eq_true rfl) (by omega) (by omega) (ls1 := [some (vI 0), some (vI x7)]) rfl k
theorem BX2_workOff_53 {d bc bs : Nat} {h : aH} {n : Nat} {Q : aQ} {r0 r1 r2 r3 : Option Nat} {x4 x5 x6 x7 s0 s1 : Int} {l8 : Option aV} (b1 : -2147483648 ≤ s0 + s1 ∧ s0 + s1 < 2147483648) (b2 : -2147483648 ≤ (s0 + s1) + 1 ∧ (s0 + s1) + 1 < 2147483648) (k : Rn d bc bs mX2_workOff 8 [some (vR r0), some (vR r1), some (vR r2), some (vR r3), some (vI x4), some (vI ((s0 + s1) + 1)), some (vI x6), some (vI x7), l8] [] h n Q) : Rn d (bc) (bs) mX2_workOff 53 [some (vR r0), some (vR r1), some (vR r2), some (vR r3), some (vI x4), some (vI x5), some (vI x6), some (vI x7), l8] [vI s1, vI s0] h n Q := by
  refine Rn_iadd dX2_workOff_53 ?_
  rw [w32_id b1.1 b1.2]
  refine Rn_istore dX2_workOff_54 (Nat.le_of_ble_eq_true rfl) rfl rfl ?_
  refine Rn_goto (tgt := 220) dX2_workOff_56 rfl ?_
  refine Rn_iinc dX2_workOff_220 rfl (Nat.le_of_ble_eq_true rfl) rfl rfl rfl ?_
  rw [w32_id b2.1 b2.2]
  refine Rn_goto (tgt := 8) dX2_workOff_223 rfl ?_
  exact k
theorem BX2_workOff_59 {d bc bs : Nat} {h : aH} {n : Nat} {Q : aQ} {r0 r1 r2 r3 : Option Nat} {x4 x5 x6 x7 : Int} {l8 : Option aV} (kt : x6 ≠ 52 → Rn d bc bs mX2_workOff 87 [some (vR r0), some (vR r1), some (vR r2), some (vR r3), some (vI x4), some (vI x5), some (vI x6), some (vI x7), l8] [] h n Q) (kf : x6 = 52 → Rn d bc bs mX2_workOff 66 [some (vR r0), some (vR r1), some (vR r2), some (vR r3), some (vI x4), some (vI x5), some (vI x6), some (vI x7), l8] [] h n Q) : Rn d (bc) (bs) mX2_workOff 59 [some (vR r0), some (vR r1), some (vR r2), some (vR r3), some (vI x4), some (vI x5), some (vI x6), some (vI x7), l8] [] h n Q := by
  refine Rn_iload dX2_workOff_59 rfl ?_
  refine Rn_bipush dX2_workOff_61 rfl ?_
  refine Rn_icmpne (tgt := 87) dX2_workOff_63 rfl ?_ ?_
  · exact kt
  · exact kf
theorem BX2_workOff_66 {d bc bs : Nat} {h : aH} {n : Nat} {Q : aQ} {ar0 : Nat} {r1 r2 r3 : Option Nat} {x4 x5 x6 x7 : Int} {l8 : Option aV} {f1 : List aV} (h2 : h ar0 = cO 2 f1) (k : Rn d 0 0 mX2_pop 0 [some (vR (some ar0))] [] h n (fun v h1 n1 => Rn (d + 1) bc bs mX2_workOff 70 [some (vR (some ar0)), some (vR r1), some (vR r2), some (vR r3), some (vI x4), some (vI x5), some (vI x6), some (vI x7), l8] (v.toList ++ []) h1 n1 Q)) : Rn (d + 1) (bc) (bs) mX2_workOff 66 [some (vR (some ar0)), some (vR r1), some (vR r2), some (vR r3), some (vI x4), some (vI x5), some (vI x6), some (vI x7), l8] [] h n Q := by
  refine Rn_aload_n dX2_workOff_66 rfl rfl rfl ?_
  exact Rn_callV (ci := 2) (avs := []) (st := []) (bc1 := 0) (bs1 := 0) (bc2 := bc) (bs2 := bs) fx_X2_pop dX2_workOff_67 wd_901 wd_903 wd_34 rfl h2 rfl (Nat.le_of_ble_eq_true rfl) (Nat.le_of_ble_eq_true rfl) (by omega) (by omega) (ls1 := [some (vR (some ar0))]) rfl k
theorem BX2_workOff_70 {d bc bs : Nat} {h : aH} {n : Nat} {Q : aQ} {r0 r1 r2 r3 : Option Nat} {x4 x5 x6 x7 s0 : Int} {l8 : Option aV} (kt : s0 ≠ 0 → Rn d bc bs mX2_workOff 220 [some (vR r0), some (vR r1), some (vR r2), some (vR r3), some (vI x4), some (vI x5), some (vI x6), some (vI x7), l8] [] h n Q) (kf : s0 = 0 → Rn d bc bs mX2_workOff 73 [some (vR r0), some (vR r1), some (vR r2), some (vR r3), some (vI x4), some (vI x5), some (vI x6), some (vI x7), l8] [] h n Q) : Rn d (bc) (bs) mX2_workOff 70 [some (vR r0), some (vR r1), some (vR r2), some (vR r3), some (vI x4), some (vI x5), some (vI x6), some (vI x7), l8] [vI s0] h n Q := by
  refine Rn_ifne (tgt := 220) dX2_workOff_70 rfl ?_ ?_
  · exact kt
  · exact kf
theorem BX2_workOff_73 {d bc bs : Nat} {h : aH} {n : Nat} {Q : aQ} {r0 r1 r2 r3 : Option Nat} {x4 x5 x6 x7 : Int} {l8 : Option aV} (k : Rn d 0 0 mJ9_max_7cf53 0 [some (vI 0), some (vI x7)] [] h n (fun v h1 n1 => Rn (d + 1) bc bs mX2_workOff 81 [some (vR r0), some (vR r1), some (vR r2), some (vR r3), some (vI x4), some (vI x5), some (vI x6), some (vI x7), l8] (v.toList ++ [vI x5]) h1 n1 Q)) : Rn (d + 1) (bc) (bs) mX2_workOff 73 [some (vR r0), some (vR r1), some (vR r2), some (vR r3), some (vI x4), some (vI x5), some (vI x6), some (vI x7), l8] [] h n Q := by
  refine Rn_iload dX2_workOff_73 rfl ?_
  refine Rn_iconst dX2_workOff_75 rfl ?_
  refine Rn_iload dX2_workOff_76 rfl ?_
  exact Rn_callS (avs := [vI 0, vI x7]) (st := [vI x5]) (bc1 := 0) (bs1 := 0) (bc2 := bc) (bs2 := bs) fx_J9_max_7cf53 dX2_workOff_78 (Or.inl wd_900) wd_717 rfl (Nat.le_of_ble_eq_true rfl) (Nat.le_of_ble_eq_true rfl) (by omega) (by omega) (ls1 := [some (vI 0), some (vI x7)]) rfl k
theorem BX2_workOff_81 {d bc bs : Nat} {h : aH} {n : Nat} {Q : aQ} {r0 r1 r2 r3 : Option Nat} {x4 x5 x6 x7 s0 s1 : Int} {l8 : Option aV} (b1 : -2147483648 ≤ s0 + s1 ∧ s0 + s1 < 2147483648) (b2 : -2147483648 ≤ (s0 + s1) + 1 ∧ (s0 + s1) + 1 < 2147483648) (k : Rn d bc bs mX2_workOff 8 [some (vR r0), some (vR r1), some (vR r2), some (vR r3), some (vI x4), some (vI ((s0 + s1) + 1)), some (vI x6), some (vI x7), l8] [] h n Q) : Rn d (bc) (bs) mX2_workOff 81 [some (vR r0), some (vR r1), some (vR r2), some (vR r3), some (vI x4), some (vI x5), some (vI x6), some (vI x7), l8] [vI s1, vI s0] h n Q := by
  refine Rn_iadd dX2_workOff_81 ?_
  rw [w32_id b1.1 b1.2]
  refine Rn_istore dX2_workOff_82 (Nat.le_of_ble_eq_true rfl) rfl rfl ?_
  refine Rn_goto (tgt := 220) dX2_workOff_84 rfl ?_
  refine Rn_iinc dX2_workOff_220 rfl (Nat.le_of_ble_eq_true rfl) rfl rfl rfl ?_
  rw [w32_id b2.1 b2.2]
  refine Rn_goto (tgt := 8) dX2_workOff_223 rfl ?_
  exact k
theorem BX2_workOff_87 {d bc bs : Nat} {h : aH} {n : Nat} {Q : aQ} {r0 r1 r2 r3 : Option Nat} {x4 x5 x6 x7 : Int} {l8 : Option aV} (kt : x6 ≠ 2 → Rn d bc bs mX2_workOff 102 [some (vR r0), some (vR r1), some (vR r2), some (vR r3), some (vI x4), some (vI x5), some (vI x6), some (vI x7), l8] [] h n Q) (kf : x6 = 2 → Rn d bc bs mX2_workOff 93 [some (vR r0), some (vR r1), some (vR r2), some (vR r3), some (vI x4), some (vI x5), some (vI x6), some (vI x7), l8] [] h n Q) : Rn d (bc) (bs) mX2_workOff 87 [some (vR r0), some (vR r1), some (vR r2), some (vR r3), some (vI x4), some (vI x5), some (vI x6), some (vI x7), l8] [] h n Q := by
  refine Rn_iload dX2_workOff_87 rfl ?_
  refine Rn_iconst dX2_workOff_89 rfl ?_
  refine Rn_icmpne (tgt := 102) dX2_workOff_90 rfl ?_ ?_
  · exact kt
  · exact kf
theorem BX2_workOff_93 {d bc bs : Nat} {h : aH} {n : Nat} {Q : aQ} {ar0 : Nat} {r1 r2 r3 : Option Nat} {x4 x5 x6 x7 : Int} {l8 : Option aV} {f1 : List aV} (h2 : h ar0 = cO 2 f1) (k : Rn d 0 0 mX2_push 0 [some (vR (some ar0)), some (vI x7)] [] h n (fun v h1 n1 => Rn (d + 1) bc bs mX2_workOff 99 [some (vR (some ar0)), some (vR r1), some (vR r2), some (vR r3), some (vI x4), some (vI x5), some (vI x6), some (vI x7), l8] (v.toList ++ []) h1 n1 Q)) : Rn (d + 1) (bc) (bs) mX2_workOff 93 [some (vR (some ar0)), some (vR r1), some (vR r2), some (vR r3), some (vI x4), some (vI x5), some (vI x6), some (vI x7), l8] [] h n Q := by
  refine Rn_aload_n dX2_workOff_93 rfl rfl rfl ?_
  refine Rn_iload dX2_workOff_94 rfl ?_
  exact Rn_callV (ci := 2) (avs := [vI x7]) (st := []) (bc1 := 0) (bs1 := 0) (bc2 := bc) (bs2 := bs) fx_X2_push dX2_workOff_96 wd_905 wd_907 wd_35 rfl h2 rfl (Nat.le_of_ble_eq_true rfl) (Nat.le_of_ble_eq_true rfl) (by omega) (by omega) (ls1 := [some (vR (some ar0)), some (vI x7)]) rfl k
theorem BX2_workOff_99 {d bc bs : Nat} {h : aH} {n : Nat} {Q : aQ} {r0 r1 r2 r3 : Option Nat} {x4 x5 x6 x7 : Int} {l8 : Option aV} (b1 : -2147483648 ≤ x5 + 1 ∧ x5 + 1 < 2147483648) (k : Rn d bc bs mX2_workOff 8 [some (vR r0), some (vR r1), some (vR r2), some (vR r3), some (vI x4), some (vI (x5 + 1)), some (vI x6), some (vI x7), l8] [] h n Q) : Rn d (bc) (bs) mX2_workOff 99 [some (vR r0), some (vR r1), some (vR r2), some (vR r3), some (vI x4), some (vI x5), some (vI x6), some (vI x7), l8] [] h n Q := by
  refine Rn_goto (tgt := 220) dX2_workOff_99 rfl ?_
  refine Rn_iinc dX2_workOff_220 rfl (Nat.le_of_ble_eq_true rfl) rfl rfl rfl ?_
  rw [w32_id b1.1 b1.2]
  refine Rn_goto (tgt := 8) dX2_workOff_223 rfl ?_
  exact k
theorem BX2_workOff_102 {d bc bs : Nat} {h : aH} {n : Nat} {Q : aQ} {r0 r1 r2 r3 : Option Nat} {x4 x5 x6 x7 : Int} {l8 : Option aV} (kt : x6 < 23 → Rn d bc bs mX2_workOff 132 [some (vR r0), some (vR r1), some (vR r2), some (vR r3), some (vI x4), some (vI x5), some (vI x6), some (vI x7), l8] [] h n Q) (kf : 23 ≤ x6 → Rn d bc bs mX2_workOff 109 [some (vR r0), some (vR r1), some (vR r2), some (vR r3), some (vI x4), some (vI x5), some (vI x6), some (vI x7), l8] [] h n Q) : Rn d (bc) (bs) mX2_workOff 102 [some (vR r0), some (vR r1), some (vR r2), some (vR r3), some (vI x4), some (vI x5), some (vI x6), some (vI x7), l8] [] h n Q := by
  refine Rn_iload dX2_workOff_102 rfl ?_
  refine Rn_bipush dX2_workOff_104 rfl ?_
  refine Rn_icmplt (tgt := 132) dX2_workOff_106 rfl ?_ ?_
  · exact kt
  · exact kf
theorem BX2_workOff_109 {d bc bs : Nat} {h : aH} {n : Nat} {Q : aQ} {r0 r1 r2 r3 : Option Nat} {x4 x5 x6 x7 : Int} {l8 : Option aV} (kt : 30 < x6 → Rn d bc bs mX2_workOff 132 [some (vR r0), some (vR r1), some (vR r2), some (vR r3), some (vI x4), some (vI x5), some (vI x6), some (vI x7), l8] [] h n Q) (kf : x6 ≤ 30 → Rn d bc bs mX2_workOff 116 [some (vR r0), some (vR r1), some (vR r2), some (vR r3), some (vI x4), some (vI x5), some (vI x6), some (vI x7), l8] [] h n Q) : Rn d (bc) (bs) mX2_workOff 109 [some (vR r0), some (vR r1), some (vR r2), some (vR r3), some (vI x4), some (vI x5), some (vI x6), some (vI x7), l8] [] h n Q := by
  refine Rn_iload dX2_workOff_109 rfl ?_
  refine Rn_bipush dX2_workOff_111 rfl ?_
  refine Rn_icmpgt (tgt := 132) dX2_workOff_113 rfl ?_ ?_
  · exact kt
  · exact kf
theorem BX2_workOff_116 {d bc bs : Nat} {h : aH} {n : Nat} {Q : aQ} {r0 r1 r2 r3 : Option Nat} {x4 x5 x6 x7 : Int} {l8 : Option aV} (k : Rn d 0 0 mX2_named 0 [some (vI x6), some (vR r2), some (vR r3), some (vI x4)] [] h n (fun v h1 n1 => Rn (d + 1) bc bs mX2_workOff 126 [some (vR r0), some (vR r1), some (vR r2), some (vR r3), some (vI x4), some (vI x5), some (vI x6), some (vI x7), l8] (v.toList ++ [vR r0]) h1 n1 Q)) : Rn (d + 1) (bc) (bs) mX2_workOff 116 [some (vR r0), some (vR r1), some (vR r2), some (vR r3), some (vI x4), some (vI x5), some (vI x6), some (vI x7), l8] [] h n Q := by
  refine Rn_aload_n dX2_workOff_116 rfl rfl rfl ?_
  refine Rn_iload dX2_workOff_117 rfl ?_
  refine Rn_aload_n dX2_workOff_119 rfl rfl rfl ?_
  refine Rn_aload_n dX2_workOff_120 rfl rfl rfl ?_
  refine Rn_iload dX2_workOff_121 rfl ?_
  exact Rn_callS (avs := [vI x6, vR r2, vR r3, vI x4]) (st := [vR r0]) (bc1 := 0) (bs1 := 0) (bc2 := bc) (bs2 := bs) fx_X2_named dX2_workOff_123 (Or.inl wd_909) wd_910 rfl (Nat.le_of_ble_eq_true rfl) (Nat.le_of_ble_eq_true rfl) (by omega) (by omega) (ls1 := [some (vI x6), some (vR r2), some (vR r3), some (vI x4)]) rfl k
theorem BX2_workOff_126 {d bc bs : Nat} {h : aH} {n : Nat} {Q : aQ} {r0 r1 r2 r3 : Option Nat} {x4 x5 x6 x7 s1 : Int} {l8 : Option aV} {aq0 : Nat} {f1 : List aV} (h2 : h aq0 = cO 2 f1) (k : Rn d 0 0 mX2_push 0 [some (vR (some aq0)), some (vI s1)] [] h n (fun v h1 n1 => Rn (d + 1) bc bs mX2_workOff 129 [some (vR r0), some (vR r1), some (vR r2), some (vR r3), some (vI x4), some (vI x5), some (vI x6), some (vI x7), l8] (v.toList ++ []) h1 n1 Q)) : Rn (d + 1) (bc) (bs) mX2_workOff 126 [some (vR r0), some (vR r1), some (vR r2), some (vR r3), some (vI x4), some (vI x5), some (vI x6), some (vI x7), l8] [vI s1, vR (some aq0)] h n Q := by
  exact Rn_callV (ci := 2) (avs := [vI s1]) (st := []) (bc1 := 0) (bs1 := 0) (bc2 := bc) (bs2 := bs) fx_X2_push dX2_workOff_126 wd_905 wd_907 wd_35 rfl h2 rfl (Nat.le_of_ble_eq_true rfl) (Nat.le_of_ble_eq_true rfl) (by omega) (by omega) (ls1 := [some (vR (some aq0)), some (vI s1)]) rfl k
theorem BX2_workOff_129 {d bc bs : Nat} {h : aH} {n : Nat} {Q : aQ} {r0 r1 r2 r3 : Option Nat} {x4 x5 x6 x7 : Int} {l8 : Option aV} (b1 : -2147483648 ≤ x5 + 1 ∧ x5 + 1 < 2147483648) (k : Rn d bc bs mX2_workOff 8 [some (vR r0), some (vR r1), some (vR r2), some (vR r3), some (vI x4), some (vI (x5 + 1)), some (vI x6), some (vI x7), l8] [] h n Q) : Rn d (bc) (bs) mX2_workOff 129 [some (vR r0), some (vR r1), some (vR r2), some (vR r3), some (vI x4), some (vI x5), some (vI x6), some (vI x7), l8] [] h n Q := by
  refine Rn_goto (tgt := 220) dX2_workOff_129 rfl ?_
  refine Rn_iinc dX2_workOff_220 rfl (Nat.le_of_ble_eq_true rfl) rfl rfl rfl ?_
  rw [w32_id b1.1 b1.2]
  refine Rn_goto (tgt := 8) dX2_workOff_223 rfl ?_
  exact k
theorem BX2_workOff_132 {d bc bs : Nat} {h : aH} {n : Nat} {Q : aQ} {r0 r1 r2 r3 : Option Nat} {x4 x5 x6 x7 : Int} {l8 : Option aV} (kt : x6 ≠ 34 → Rn d bc bs mX2_workOff 154 [some (vR r0), some (vR r1), some (vR r2), some (vR r3), some (vI x4), some (vI x5), some (vI x6), some (vI x7), l8] [] h n Q) (kf : x6 = 34 → Rn d bc bs mX2_workOff 139 [some (vR r0), some (vR r1), some (vR r2), some (vR r3), some (vI x4), some (vI x5), some (vI x6), some (vI x7), l8] [] h n Q) : Rn d (bc) (bs) mX2_workOff 132 [some (vR r0), some (vR r1), some (vR r2), some (vR r3), some (vI x4), some (vI x5), some (vI x6), some (vI x7), l8] [] h n Q := by
  refine Rn_iload dX2_workOff_132 rfl ?_
  refine Rn_bipush dX2_workOff_134 rfl ?_
  refine Rn_icmpne (tgt := 154) dX2_workOff_136 rfl ?_ ?_
  · exact kt
  · exact kf
theorem BX2_workOff_139 {d bc bs : Nat} {h : aH} {n : Nat} {Q : aQ} {ar0 : Nat} {r1 r2 r3 : Option Nat} {x4 x5 x6 x7 : Int} {l8 : Option aV} {f1 : List aV} (h2 : h ar0 = cO 2 f1) (k : Rn d 0 0 mX2_pop 0 [some (vR (some ar0))] [] h n (fun v h1 n1 => Rn (d + 1) bc bs mX2_workOff 145 [some (vR (some ar0)), some (vR r1), some (vR r2), some (vR r3), some (vI x4), some (vI x5), some (vI x6), some (vI x7), l8] (v.toList ++ [vR r3, vR (some ar0)]) h1 n1 Q)) : Rn (d + 1) (bc) (bs) mX2_workOff 139 [some (vR (some ar0)), some (vR r1), some (vR r2), some (vR r3), some (vI x4), some (vI x5), some (vI x6), some (vI x7), l8] [] h n Q := by
  refine Rn_aload_n dX2_workOff_139 rfl rfl rfl ?_
  refine Rn_aload_n dX2_workOff_140 rfl rfl rfl ?_
  refine Rn_aload_n dX2_workOff_141 rfl rfl rfl ?_
  exact Rn_callV (ci := 2) (avs := []) (st := [vR r3, vR (some ar0)]) (bc1 := 0) (bs1 := 0) (bc2 := bc) (bs2 := bs) fx_X2_pop dX2_workOff_142 wd_901 wd_903 wd_34 rfl h2 rfl (Nat.le_of_ble_eq_true rfl) (Nat.le_of_ble_eq_true rfl) (by omega) (by omega) (ls1 := [some (vR (some ar0))]) rfl k
theorem BX2_workOff_145 {d bc bs : Nat} {h : aH} {n : Nat} {Q : aQ} {r0 r1 r2 r3 q0 : Option Nat} {x4 x5 x6 x7 s2 : Int} {l8 : Option aV} {aq1 : Nat} {f1 : List aV} (h2 : h aq1 = cO 7 f1) (k : Rn d 0 0 mX7_placeOf 0 [some (vR (some aq1)), some (vI s2)] [] h n (fun v h1 n1 => Rn (d + 1) bc bs mX2_workOff 148 [some (vR r0), some (vR r1), some (vR r2), some (vR r3), some (vI x4), some (vI x5), some (vI x6), some (vI x7), l8] (v.toList ++ [vR q0]) h1 n1 Q)) : Rn (d + 1) (bc) (bs) mX2_workOff 145 [some (vR r0), some (vR r1), some (vR r2), some (vR r3), some (vI x4), some (vI x5), some (vI x6), some (vI x7), l8] [vI s2, vR (some aq1), vR q0] h n Q := by
  exact Rn_callV (ci := 7) (avs := [vI s2]) (st := [vR q0]) (bc1 := 0) (bs1 := 0) (bc2 := bc) (bs2 := bs) fx_X7_placeOf dX2_workOff_145 wd_921 wd_812 wd_813 rfl h2 rfl (Nat.le_of_ble_eq_true rfl) (Nat.le_of_ble_eq_true rfl) (by omega) (by omega) (ls1 := [some (vR (some aq1)), some (vI s2)]) rfl k
theorem BX2_workOff_148 {d bc bs : Nat} {h : aH} {n : Nat} {Q : aQ} {r0 r1 r2 r3 : Option Nat} {x4 x5 x6 x7 s1 : Int} {l8 : Option aV} {aq0 : Nat} {f1 : List aV} (h2 : h aq0 = cO 2 f1) (k : Rn d 0 0 mX2_push 0 [some (vR (some aq0)), some (vI s1)] [] h n (fun v h1 n1 => Rn (d + 1) bc bs mX2_workOff 151 [some (vR r0), some (vR r1), some (vR r2), some (vR r3), some (vI x4), some (vI x5), some (vI x6), some (vI x7), l8] (v.toList ++ []) h1 n1 Q)) : Rn (d + 1) (bc) (bs) mX2_workOff 148 [some (vR r0), some (vR r1), some (vR r2), some (vR r3), some (vI x4), some (vI x5), some (vI x6), some (vI x7), l8] [vI s1, vR (some aq0)] h n Q := by
  exact Rn_callV (ci := 2) (avs := [vI s1]) (st := []) (bc1 := 0) (bs1 := 0) (bc2 := bc) (bs2 := bs) fx_X2_push dX2_workOff_148 wd_905 wd_907 wd_35 rfl h2 rfl (Nat.le_of_ble_eq_true rfl) (Nat.le_of_ble_eq_true rfl) (by omega) (by omega) (ls1 := [some (vR (some aq0)), some (vI s1)]) rfl k
theorem BX2_workOff_151 {d bc bs : Nat} {h : aH} {n : Nat} {Q : aQ} {r0 r1 r2 r3 : Option Nat} {x4 x5 x6 x7 : Int} {l8 : Option aV} (b1 : -2147483648 ≤ x5 + 1 ∧ x5 + 1 < 2147483648) (k : Rn d bc bs mX2_workOff 8 [some (vR r0), some (vR r1), some (vR r2), some (vR r3), some (vI x4), some (vI (x5 + 1)), some (vI x6), some (vI x7), l8] [] h n Q) : Rn d (bc) (bs) mX2_workOff 151 [some (vR r0), some (vR r1), some (vR r2), some (vR r3), some (vI x4), some (vI x5), some (vI x6), some (vI x7), l8] [] h n Q := by
  refine Rn_goto (tgt := 220) dX2_workOff_151 rfl ?_
  refine Rn_iinc dX2_workOff_220 rfl (Nat.le_of_ble_eq_true rfl) rfl rfl rfl ?_
  rw [w32_id b1.1 b1.2]
  refine Rn_goto (tgt := 8) dX2_workOff_223 rfl ?_
  exact k
theorem BX2_workOff_154 {d bc bs : Nat} {h : aH} {n : Nat} {Q : aQ} {r0 r1 r2 r3 : Option Nat} {x4 x5 x6 x7 : Int} {l8 : Option aV} (kt : x6 ≠ 50 → Rn d bc bs mX2_workOff 173 [some (vR r0), some (vR r1), some (vR r2), some (vR r3), some (vI x4), some (vI x5), some (vI x6), some (vI x7), l8] [] h n Q) (kf : x6 = 50 → Rn d bc bs mX2_workOff 161 [some (vR r0), some (vR r1), some (vR r2), some (vR r3), some (vI x4), some (vI x5), some (vI x6), some (vI x7), l8] [] h n Q) : Rn d (bc) (bs) mX2_workOff 154 [some (vR r0), some (vR r1), some (vR r2), some (vR r3), some (vI x4), some (vI x5), some (vI x6), some (vI x7), l8] [] h n Q := by
  refine Rn_iload dX2_workOff_154 rfl ?_
  refine Rn_bipush dX2_workOff_156 rfl ?_
  refine Rn_icmpne (tgt := 173) dX2_workOff_158 rfl ?_ ?_
  · exact kt
  · exact kf
theorem BX2_workOff_161 {d bc bs : Nat} {h : aH} {n : Nat} {Q : aQ} {ar0 : Nat} {r1 r2 r3 : Option Nat} {x4 x5 x6 x7 : Int} {l8 : Option aV} {f1 : List aV} (h2 : h ar0 = cO 2 f1) (k : Rn d 0 0 mX2_pop 0 [some (vR (some ar0))] [] h n (fun v h1 n1 => Rn (d + 1) bc bs mX2_workOff 166 [some (vR (some ar0)), some (vR r1), some (vR r2), some (vR r3), some (vI x4), some (vI x5), some (vI x6), some (vI x7), l8] (v.toList ++ [vR (some ar0)]) h1 n1 Q)) : Rn (d + 1) (bc) (bs) mX2_workOff 161 [some (vR (some ar0)), some (vR r1), some (vR r2), some (vR r3), some (vI x4), some (vI x5), some (vI x6), some (vI x7), l8] [] h n Q := by
  refine Rn_aload_n dX2_workOff_161 rfl rfl rfl ?_
  refine Rn_aload_n dX2_workOff_162 rfl rfl rfl ?_
  exact Rn_callV (ci := 2) (avs := []) (st := [vR (some ar0)]) (bc1 := 0) (bs1 := 0) (bc2 := bc) (bs2 := bs) fx_X2_pop dX2_workOff_163 wd_901 wd_903 wd_34 rfl h2 rfl (Nat.le_of_ble_eq_true rfl) (Nat.le_of_ble_eq_true rfl) (by omega) (by omega) (ls1 := [some (vR (some ar0))]) rfl k
theorem BX2_workOff_166 {d bc bs : Nat} {h : aH} {n : Nat} {Q : aQ} {r0 r1 r2 r3 : Option Nat} {x4 x5 x6 x7 s1 : Int} {l8 : Option aV} {aq0 : Nat} {f2 : List aV} (b1 : -2147483648 ≤ -s1 ∧ -s1 < 2147483648) (h3 : h aq0 = cO 2 f2) (k : Rn d 0 0 mX2_push 0 [some (vR (some aq0)), some (vI (-s1))] [] h n (fun v h1 n1 => Rn (d + 1) bc bs mX2_workOff 170 [some (vR r0), some (vR r1), some (vR r2), some (vR r3), some (vI x4), some (vI x5), some (vI x6), some (vI x7), l8] (v.toList ++ []) h1 n1 Q)) : Rn (d + 1) (bc) (bs) mX2_workOff 166 [some (vR r0), some (vR r1), some (vR r2), some (vR r3), some (vI x4), some (vI x5), some (vI x6), some (vI x7), l8] [vI s1, vR (some aq0)] h n Q := by
  refine Rn_ineg dX2_workOff_166 ?_
  rw [w32_id b1.1 b1.2]
  exact Rn_callV (ci := 2) (avs := [vI (-s1)]) (st := []) (bc1 := 0) (bs1 := 0) (bc2 := bc) (bs2 := bs) fx_X2_push dX2_workOff_167 wd_905 wd_907 wd_35 rfl h3 rfl (Nat.le_of_ble_eq_true rfl) (Nat.le_of_ble_eq_true rfl) (by omega) (by omega) (ls1 := [some (vR (some aq0)), some (vI (-s1))]) rfl k
theorem BX2_workOff_170 {d bc bs : Nat} {h : aH} {n : Nat} {Q : aQ} {r0 r1 r2 r3 : Option Nat} {x4 x5 x6 x7 : Int} {l8 : Option aV} (b1 : -2147483648 ≤ x5 + 1 ∧ x5 + 1 < 2147483648) (k : Rn d bc bs mX2_workOff 8 [some (vR r0), some (vR r1), some (vR r2), some (vR r3), some (vI x4), some (vI (x5 + 1)), some (vI x6), some (vI x7), l8] [] h n Q) : Rn d (bc) (bs) mX2_workOff 170 [some (vR r0), some (vR r1), some (vR r2), some (vR r3), some (vI x4), some (vI x5), some (vI x6), some (vI x7), l8] [] h n Q := by
  refine Rn_goto (tgt := 220) dX2_workOff_170 rfl ?_
  refine Rn_iinc dX2_workOff_220 rfl (Nat.le_of_ble_eq_true rfl) rfl rfl rfl ?_
  rw [w32_id b1.1 b1.2]
  refine Rn_goto (tgt := 8) dX2_workOff_223 rfl ?_
  exact k
theorem BX2_workOff_173 {d bc bs : Nat} {h : aH} {n : Nat} {Q : aQ} {r0 r1 r2 r3 : Option Nat} {x4 x5 x6 x7 : Int} {l8 : Option aV} (kt : x6 ≠ 41 → Rn d bc bs mX2_workOff 199 [some (vR r0), some (vR r1), some (vR r2), some (vR r3), some (vI x4), some (vI x5), some (vI x6), some (vI x7), l8] [] h n Q) (kf : x6 = 41 → Rn d bc bs mX2_workOff 180 [some (vR r0), some (vR r1), some (vR r2), some (vR r3), some (vI x4), some (vI x5), some (vI x6), some (vI x7), l8] [] h n Q) : Rn d (bc) (bs) mX2_workOff 173 [some (vR r0), some (vR r1), some (vR r2), some (vR r3), some (vI x4), some (vI x5), some (vI x6), some (vI x7), l8] [] h n Q := by
  refine Rn_iload dX2_workOff_173 rfl ?_
  refine Rn_bipush dX2_workOff_175 rfl ?_
  refine Rn_icmpne (tgt := 199) dX2_workOff_177 rfl ?_ ?_
  · exact kt
  · exact kf
theorem BX2_workOff_180 {d bc bs : Nat} {h : aH} {n : Nat} {Q : aQ} {ar0 : Nat} {r1 r2 r3 : Option Nat} {x4 x5 x6 x7 : Int} {l8 : Option aV} {f1 : List aV} (h2 : h ar0 = cO 2 f1) (k : Rn d 0 0 mX2_pop 0 [some (vR (some ar0))] [] h n (fun v h1 n1 => Rn (d + 1) bc bs mX2_workOff 185 [some (vR (some ar0)), some (vR r1), some (vR r2), some (vR r3), some (vI x4), some (vI x5), some (vI x6), some (vI x7), l8] (v.toList ++ [vR (some ar0)]) h1 n1 Q)) : Rn (d + 1) (bc) (bs) mX2_workOff 180 [some (vR (some ar0)), some (vR r1), some (vR r2), some (vR r3), some (vI x4), some (vI x5), some (vI x6), some (vI x7), l8] [] h n Q := by
  refine Rn_aload_n dX2_workOff_180 rfl rfl rfl ?_
  refine Rn_aload_n dX2_workOff_181 rfl rfl rfl ?_
  exact Rn_callV (ci := 2) (avs := []) (st := [vR (some ar0)]) (bc1 := 0) (bs1 := 0) (bc2 := bc) (bs2 := bs) fx_X2_pop dX2_workOff_182 wd_901 wd_903 wd_34 rfl h2 rfl (Nat.le_of_ble_eq_true rfl) (Nat.le_of_ble_eq_true rfl) (by omega) (by omega) (ls1 := [some (vR (some ar0))]) rfl k
theorem BX2_workOff_185 {d bc bs : Nat} {h : aH} {n : Nat} {Q : aQ} {r0 r1 r2 r3 q0 : Option Nat} {x4 x5 x6 x7 s1 : Int} {l8 : Option aV} (kt : s1 ≠ 0 → Rn d bc bs mX2_workOff 192 [some (vR r0), some (vR r1), some (vR r2), some (vR r3), some (vI x4), some (vI x5), some (vI x6), some (vI x7), l8] [vR q0] h n Q) (kf : s1 = 0 → Rn d bc bs mX2_workOff 188 [some (vR r0), some (vR r1), some (vR r2), some (vR r3), some (vI x4), some (vI x5), some (vI x6), some (vI x7), l8] [vR q0] h n Q) : Rn d (bc) (bs) mX2_workOff 185 [some (vR r0), some (vR r1), some (vR r2), some (vR r3), some (vI x4), some (vI x5), some (vI x6), some (vI x7), l8] [vI s1, vR q0] h n Q := by
  refine Rn_ifne (tgt := 192) dX2_workOff_185 rfl ?_ ?_
  · exact kt
  · exact kf
theorem BX2_workOff_188 {d bc bs : Nat} {h : aH} {n : Nat} {Q : aQ} {r0 r1 r2 r3 : Option Nat} {x4 x5 x6 x7 : Int} {l8 : Option aV} {aq0 : Nat} {f1 : List aV} (h2 : h aq0 = cO 2 f1) (k : Rn d 0 0 mX2_push 0 [some (vR (some aq0)), some (vI 1)] [] h n (fun v h1 n1 => Rn (d + 1) bc bs mX2_workOff 196 [some (vR r0), some (vR r1), some (vR r2), some (vR r3), some (vI x4), some (vI x5), some (vI x6), some (vI x7), l8] (v.toList ++ []) h1 n1 Q)) : Rn (d + 1) (bc) (bs) mX2_workOff 188 [some (vR r0), some (vR r1), some (vR r2), some (vR r3), some (vI x4), some (vI x5), some (vI x6), some (vI x7), l8] [vR (some aq0)] h n Q := by
  refine Rn_iconst dX2_workOff_188 rfl ?_
  refine Rn_goto (tgt := 193) dX2_workOff_189 rfl ?_
  exact Rn_callV (ci := 2) (avs := [vI 1]) (st := []) (bc1 := 0) (bs1 := 0) (bc2 := bc) (bs2 := bs) fx_X2_push dX2_workOff_193 wd_905 wd_907 wd_35 rfl h2 rfl (Nat.le_of_ble_eq_true rfl) (Nat.le_of_ble_eq_true rfl) (by omega) (by omega) (ls1 := [some (vR (some aq0)), some (vI 1)]) rfl k
theorem BX2_workOff_192 {d bc bs : Nat} {h : aH} {n : Nat} {Q : aQ} {r0 r1 r2 r3 : Option Nat} {x4 x5 x6 x7 : Int} {l8 : Option aV} {aq0 : Nat} {f1 : List aV} (h2 : h aq0 = cO 2 f1) (k : Rn d 0 0 mX2_push 0 [some (vR (some aq0)), some (vI 0)] [] h n (fun v h1 n1 => Rn (d + 1) bc bs mX2_workOff 196 [some (vR r0), some (vR r1), some (vR r2), some (vR r3), some (vI x4), some (vI x5), some (vI x6), some (vI x7), l8] (v.toList ++ []) h1 n1 Q)) : Rn (d + 1) (bc) (bs) mX2_workOff 192 [some (vR r0), some (vR r1), some (vR r2), some (vR r3), some (vI x4), some (vI x5), some (vI x6), some (vI x7), l8] [vR (some aq0)] h n Q := by
  refine Rn_iconst dX2_workOff_192 rfl ?_
  exact Rn_callV (ci := 2) (avs := [vI 0]) (st := []) (bc1 := 0) (bs1 := 0) (bc2 := bc) (bs2 := bs) fx_X2_push dX2_workOff_193 wd_905 wd_907 wd_35 rfl h2 rfl (Nat.le_of_ble_eq_true rfl) (Nat.le_of_ble_eq_true rfl) (by omega) (by omega) (ls1 := [some (vR (some aq0)), some (vI 0)]) rfl k
theorem BX2_workOff_196 {d bc bs : Nat} {h : aH} {n : Nat} {Q : aQ} {r0 r1 r2 r3 : Option Nat} {x4 x5 x6 x7 : Int} {l8 : Option aV} (b1 : -2147483648 ≤ x5 + 1 ∧ x5 + 1 < 2147483648) (k : Rn d bc bs mX2_workOff 8 [some (vR r0), some (vR r1), some (vR r2), some (vR r3), some (vI x4), some (vI (x5 + 1)), some (vI x6), some (vI x7), l8] [] h n Q) : Rn d (bc) (bs) mX2_workOff 196 [some (vR r0), some (vR r1), some (vR r2), some (vR r3), some (vI x4), some (vI x5), some (vI x6), some (vI x7), l8] [] h n Q := by
  refine Rn_goto (tgt := 220) dX2_workOff_196 rfl ?_
  refine Rn_iinc dX2_workOff_220 rfl (Nat.le_of_ble_eq_true rfl) rfl rfl rfl ?_
  rw [w32_id b1.1 b1.2]
  refine Rn_goto (tgt := 8) dX2_workOff_223 rfl ?_
  exact k
theorem BX2_workOff_199 {d bc bs : Nat} {h : aH} {n : Nat} {Q : aQ} {ar0 : Nat} {r1 r2 r3 : Option Nat} {x4 x5 x6 x7 : Int} {l8 : Option aV} {f1 : List aV} (h2 : h ar0 = cO 2 f1) (k : Rn d 0 0 mX2_pop 0 [some (vR (some ar0))] [] h n (fun v h1 n1 => Rn (d + 1) bc bs mX2_workOff 203 [some (vR (some ar0)), some (vR r1), some (vR r2), some (vR r3), some (vI x4), some (vI x5), some (vI x6), some (vI x7), l8] (v.toList ++ []) h1 n1 Q)) : Rn (d + 1) (bc) (bs) mX2_workOff 199 [some (vR (some ar0)), some (vR r1), some (vR r2), some (vR r3), some (vI x4), some (vI x5), some (vI x6), some (vI x7), l8] [] h n Q := by
  refine Rn_aload_n dX2_workOff_199 rfl rfl rfl ?_
  exact Rn_callV (ci := 2) (avs := []) (st := []) (bc1 := 0) (bs1 := 0) (bc2 := bc) (bs2 := bs) fx_X2_pop dX2_workOff_200 wd_901 wd_903 wd_34 rfl h2 rfl (Nat.le_of_ble_eq_true rfl) (Nat.le_of_ble_eq_true rfl) (by omega) (by omega) (ls1 := [some (vR (some ar0))]) rfl k
theorem BX2_workOff_203 {d bc bs : Nat} {h : aH} {n : Nat} {Q : aQ} {ar0 : Nat} {r1 r2 r3 : Option Nat} {x4 x5 x6 x7 s0 : Int} {l8 : Option aV} {f1 : List aV} (h2 : h ar0 = cO 2 f1) (k : Rn d 0 0 mX2_pop 0 [some (vR (some ar0))] [] h n (fun v h1 n1 => Rn (d + 1) bc bs mX2_workOff 212 [some (vR (some ar0)), some (vR r1), some (vR r2), some (vR r3), some (vI x4), some (vI x5), some (vI x6), some (vI x7), some (vI s0)] (v.toList ++ [vI x6, vR (some ar0)]) h1 n1 Q)) : Rn (d + 1) (bc) (bs) mX2_workOff 203 [some (vR (some ar0)), some (vR r1), some (vR r2), some (vR r3), some (vI x4), some (vI x5), some (vI x6), some (vI x7), l8] [vI s0] h n Q := by
  refine Rn_istore dX2_workOff_203 (Nat.le_of_ble_eq_true rfl) rfl rfl ?_
  refine Rn_aload_n dX2_workOff_205 rfl rfl rfl ?_
  refine Rn_iload dX2_workOff_206 rfl ?_
  refine Rn_aload_n dX2_workOff_208 rfl rfl rfl ?_
  exact Rn_callV (ci := 2) (avs := []) (st := [vI x6, vR (some ar0)]) (bc1 := 0) (bs1 := 0) (bc2 := bc) (bs2 := bs) fx_X2_pop dX2_workOff_209 wd_901 wd_903 wd_34 rfl h2 rfl (Nat.le_of_ble_eq_true rfl) (Nat.le_of_ble_eq_true rfl) (by omega) (by omega) (ls1 := [some (vR (some ar0))]) rfl k
theorem BX2_workOff_212 {d bc bs : Nat} {h : aH} {n : Nat} {Q : aQ} {r0 r1 r2 r3 q0 : Option Nat} {x4 x5 x6 x7 x8 s1 s2 : Int} (k : Rn d 0 0 mX2_joined 0 [some (vI s1), some (vI s2), some (vI x8)] [] h n (fun v h1 n1 => Rn (d + 1) bc bs mX2_workOff 217 [some (vR r0), some (vR r1), some (vR r2), some (vR r3), some (vI x4), some (vI x5), some (vI x6), some (vI x7), some (vI x8)] (v.toList ++ [vR q0]) h1 n1 Q)) : Rn (d + 1) (bc) (bs) mX2_workOff 212 [some (vR r0), some (vR r1), some (vR r2), some (vR r3), some (vI x4), some (vI x5), some (vI x6), some (vI x7), some (vI x8)] [vI s2, vI s1, vR q0] h n Q := by
  refine Rn_iload dX2_workOff_212 rfl ?_
  exact Rn_callS (avs := [vI s1, vI s2, vI x8]) (st := [vR q0]) (bc1 := 0) (bs1 := 0) (bc2 := bc) (bs2 := bs) fx_X2_joined dX2_workOff_214 (Or.inl wd_922) wd_923 rfl (Nat.le_of_ble_eq_true rfl) (Nat.le_of_ble_eq_true rfl) (by omega) (by omega) (ls1 := [some (vI s1), some (vI s2), some (vI x8)]) rfl k
theorem BX2_workOff_217 {d bc bs : Nat} {h : aH} {n : Nat} {Q : aQ} {r0 r1 r2 r3 : Option Nat} {x4 x5 x6 x7 x8 s1 : Int} {aq0 : Nat} {f1 : List aV} (h2 : h aq0 = cO 2 f1) (k : Rn d 0 0 mX2_push 0 [some (vR (some aq0)), some (vI s1)] [] h n (fun v h1 n1 => Rn (d + 1) bc bs mX2_workOff 220 [some (vR r0), some (vR r1), some (vR r2), some (vR r3), some (vI x4), some (vI x5), some (vI x6), some (vI x7), some (vI x8)] (v.toList ++ []) h1 n1 Q)) : Rn (d + 1) (bc) (bs) mX2_workOff 217 [some (vR r0), some (vR r1), some (vR r2), some (vR r3), some (vI x4), some (vI x5), some (vI x6), some (vI x7), some (vI x8)] [vI s1, vR (some aq0)] h n Q := by
  exact Rn_callV (ci := 2) (avs := [vI s1]) (st := []) (bc1 := 0) (bs1 := 0) (bc2 := bc) (bs2 := bs) fx_X2_push dX2_workOff_217 wd_905 wd_907 wd_35 rfl h2 rfl (Nat.le_of_ble_eq_true rfl) (Nat.le_of_ble_eq_true rfl) (by omega) (by omega) (ls1 := [some (vR (some aq0)), some (vI s1)]) rfl k
theorem BX2_workOff_220 {d bc bs : Nat} {h : aH} {n : Nat} {Q : aQ} {r0 r1 r2 r3 : Option Nat} {x4 x5 x6 x7 : Int} {l8 : Option aV} (b1 : -2147483648 ≤ x5 + 1 ∧ x5 + 1 < 2147483648) (k : Rn d bc bs mX2_workOff 8 [some (vR r0), some (vR r1), some (vR r2), some (vR r3), some (vI x4), some (vI (x5 + 1)), some (vI x6), some (vI x7), l8] [] h n Q) : Rn d (bc) (bs) mX2_workOff 220 [some (vR r0), some (vR r1), some (vR r2), some (vR r3), some (vI x4), some (vI x5), some (vI x6), some (vI x7), l8] [] h n Q := by
  refine Rn_iinc dX2_workOff_220 rfl (Nat.le_of_ble_eq_true rfl) rfl rfl rfl ?_
  rw [w32_id b1.1 b1.2]
  refine Rn_goto (tgt := 8) dX2_workOff_223 rfl ?_
  exact k
theorem BX2_workOff_226 {d bc bs : Nat} {h : aH} {n : Nat} {Q : aQ} {ar0 : Nat} {r1 r2 r3 : Option Nat} {x4 x5 : Int} {l6 l7 l8 : Option aV} {f1 : List aV} (h2 : h ar0 = cO 2 f1) (k : Rn d 0 0 mX2_pop 0 [some (vR (some ar0))] [] h n (fun v h1 n1 => Rn (d + 1) bc bs mX2_workOff 230 [some (vR (some ar0)), some (vR r1), some (vR r2), some (vR r3), some (vI x4), some (vI x5), l6, l7, l8] (v.toList ++ []) h1 n1 Q)) : Rn (d + 1) (bc) (bs) mX2_workOff 226 [some (vR (some ar0)), some (vR r1), some (vR r2), some (vR r3), some (vI x4), some (vI x5), l6, l7, l8] [] h n Q := by
  refine Rn_aload_n dX2_workOff_226 rfl rfl rfl ?_
  exact Rn_callV (ci := 2) (avs := []) (st := []) (bc1 := 0) (bs1 := 0) (bc2 := bc) (bs2 := bs) fx_X2_pop dX2_workOff_227 wd_901 wd_903 wd_34 rfl h2 rfl (Nat.le_of_ble_eq_true rfl) (Nat.le_of_ble_eq_true rfl) (by omega) (by omega) (ls1 := [some (vR (some ar0))]) rfl k
theorem BX2_workOff_230 {d bc bs : Nat} {h : aH} {n : Nat} {Q : aQ} {r0 r1 r2 r3 : Option Nat} {x4 x5 s0 : Int} {l6 l7 l8 : Option aV} (k : Q (some (vI s0)) h n) : Rn d (bc) (bs) mX2_workOff 230 [some (vR r0), some (vR r1), some (vR r2), some (vR r3), some (vI x4), some (vI x5), l6, l7, l8] [vI s0] h n Q := by
  exact Rn_ireturn rfl dX2_workOff_230 k
theorem dX2_push_0 : decode cX2_push 0 = .ok (.aload_n 0, 1) := by decide +kernel
theorem dX2_push_1 : decode cX2_push 1 = .ok (.getfield 15, 3) := by decide +kernel
theorem dX2_push_4 : decode cX2_push 4 = .ok (.ifCond .lt 15, 3) := by decide +kernel
theorem dX2_push_7 : decode cX2_push 7 = .ok (.aload_n 0, 1) := by decide +kernel
theorem dX2_push_8 : decode cX2_push 8 = .ok (.getfield 15, 3) := by decide +kernel
theorem dX2_push_11 : decode cX2_push 11 = .ok (.aload_n 0, 1) := by decide +kernel
theorem dX2_push_12 : decode cX2_push 12 = .ok (.getfield 9, 3) := by decide +kernel
theorem dX2_push_15 : decode cX2_push 15 = .ok (.arraylength, 1) := by decide +kernel
theorem dX2_push_16 : decode cX2_push 16 = .ok (.if_icmp .lt 4, 3) := by decide +kernel
theorem dX2_push_19 : decode cX2_push 19 = .ok (.return_, 1) := by decide +kernel
theorem dX2_push_20 : decode cX2_push 20 = .ok (.aload_n 0, 1) := by decide +kernel
theorem dX2_push_21 : decode cX2_push 21 = .ok (.getfield 9, 3) := by decide +kernel
theorem dX2_push_24 : decode cX2_push 24 = .ok (.aload_n 0, 1) := by decide +kernel
theorem dX2_push_25 : decode cX2_push 25 = .ok (.getfield 15, 3) := by decide +kernel
theorem dX2_push_28 : decode cX2_push 28 = .ok (.iload_n 1, 1) := by decide +kernel
theorem dX2_push_29 : decode cX2_push 29 = .ok (.iastore, 1) := by decide +kernel
theorem dX2_push_30 : decode cX2_push 30 = .ok (.aload_n 0, 1) := by decide +kernel
theorem dX2_push_31 : decode cX2_push 31 = .ok (.dup, 1) := by decide +kernel
theorem dX2_push_32 : decode cX2_push 32 = .ok (.getfield 15, 3) := by decide +kernel
theorem dX2_push_35 : decode cX2_push 35 = .ok (.iconst 1, 1) := by decide +kernel
theorem dX2_push_36 : decode cX2_push 36 = .ok (.iadd, 1) := by decide +kernel
theorem dX2_push_37 : decode cX2_push 37 = .ok (.putfield 15, 3) := by decide +kernel
theorem dX2_push_40 : decode cX2_push 40 = .ok (.return_, 1) := by decide +kernel
theorem BX2_push_0 {d bc bs : Nat} {h : aH} {n : Nat} {Q : aQ} {ar0 : Nat} {x1 v3 : Int} {f1 : List aV} (h2 : h ar0 = cO 2 f1) (g4 : f1[1]? = some (vI v3)) (kt : v3 < 0 → Rn d bc bs mX2_push 19 [some (vR (some ar0)), some (vI x1)] [] h n Q) (kf : 0 ≤ v3 → Rn d bc bs mX2_push 7 [some (vR (some ar0)), some (vI x1)] [] h n Q) : Rn d (bc) (bs) mX2_push 0 [some (vR (some ar0)), some (vI x1)] [] h n Q := by
  refine Rn_aload_n dX2_push_0 rfl rfl rfl ?_
  refine Rn_getfield (ci := 2) (k := 1) dX2_push_1 rfl in_2 (Nat.le_of_ble_eq_true rfl) wd_395 rfl h2 g4 ?_
  refine Rn_iflt (tgt := 19) dX2_push_4 rfl ?_ ?_
  · exact kt
  · exact kf
theorem BX2_push_7 {d bc bs : Nat} {h : aH} {n : Nat} {Q : aQ} {ar0 at5 : Nat} {x1 v3 : Int} {f1 : List aV} {w7 : List Int} (h2 : h ar0 = cO 2 f1) (g4 : f1[1]? = some (vI v3)) (g6 : f1[0]? = some (vR (some at5))) (h8 : h at5 = cI w7) (y9 : w7.length < 2147483648) (z10 : at5 ≠ 0) (kt : v3 < (w7.length : Int) → Rn d bc bs mX2_push 20 [some (vR (some ar0)), some (vI x1)] [] h n Q) (kf : (w7.length : Int) ≤ v3 → Rn d bc bs mX2_push 19 [some (vR (some ar0)), some (vI x1)] [] h n Q) : Rn d (bc) (bs) mX2_push 7 [some (vR (some ar0)), some (vI x1)] [] h n Q := by
  refine Rn_aload_n dX2_push_7 rfl rfl rfl ?_
  refine Rn_getfield (ci := 2) (k := 1) dX2_push_8 rfl in_2 (Nat.le_of_ble_eq_true rfl) wd_395 rfl h2 g4 ?_
  refine Rn_aload_n dX2_push_11 rfl rfl rfl ?_
  refine Rn_getfield (ci := 2) (k := 0) dX2_push_12 rfl in_2 (Nat.le_of_ble_eq_true rfl) wd_394 rfl h2 g6 ?_
  refine Rn_alenI dX2_push_15 z10 h8 y9 ?_
  refine Rn_icmplt (tgt := 20) dX2_push_16 rfl ?_ ?_
  · exact kt
  · exact kf
theorem BX2_push_19 {d bc bs : Nat} {h : aH} {n : Nat} {Q : aQ} {r0 : Option Nat} {x1 : Int} (k : Q none h n) : Rn d (bc) (bs) mX2_push 19 [some (vR r0), some (vI x1)] [] h n Q := by
  exact Rn_return rfl dX2_push_19 k
theorem BX2_push_20 {d bc bs : Nat} {h : aH} {n : Nat} {Q : aQ} {ar0 at3 : Nat} {x1 v5 : Int} {f1 : List aV} {w7 : List Int} (h2 : h ar0 = cO 2 f1) (g4 : f1[0]? = some (vR (some at3))) (g6 : f1[1]? = some (vI v5)) (h8 : h at3 = cI w7) (i9 : 0 ≤ v5) (j10 : v5 < w7.length) (z11 : at3 ≠ 0) (k : Rn d bc bs mX2_push 30 [some (vR (some ar0)), some (vI x1)] [] (up h at3 (cI (w7.set (v5 : Int).toNat x1))) n Q) : Rn d (bc) (bs) mX2_push 20 [some (vR (some ar0)), some (vI x1)] [] h n Q := by
  refine Rn_aload_n dX2_push_20 rfl rfl rfl ?_
  refine Rn_getfield (ci := 2) (k := 0) dX2_push_21 rfl in_2 (Nat.le_of_ble_eq_true rfl) wd_394 rfl h2 g4 ?_
  refine Rn_aload_n dX2_push_24 rfl rfl rfl ?_
  refine Rn_getfield (ci := 2) (k := 1) dX2_push_25 rfl in_2 (Nat.le_of_ble_eq_true rfl) wd_395 rfl h2 g6 ?_
  refine Rn_iload_n dX2_push_28 rfl rfl ?_
  refine Rn_iastore dX2_push_29 z11 h8 i9 j10 ?_
  exact k
theorem BX2_push_30 {d bc bs : Nat} {h : aH} {n : Nat} {Q : aQ} {ar0 : Nat} {x1 v3 : Int} {f1 : List aV} (h2 : h ar0 = cO 2 f1) (g4 : f1[1]? = some (vI v3)) (b5 : -2147483648 ≤ v3 + 1 ∧ v3 + 1 < 2147483648) (m6 : 1 < f1.length) (k : Rn d bc bs mX2_push 40 [some (vR (some ar0)), some (vI x1)] [] (up h ar0 (cO 2 (f1.set 1 (vI (v3 + 1))))) n Q) : Rn d (bc) (bs) mX2_push 30 [some (vR (some ar0)), some (vI x1)] [] h n Q := by
  refine Rn_aload_n dX2_push_30 rfl rfl rfl ?_
  refine Rn_dup dX2_push_31 rfl ?_
  refine Rn_getfield (ci := 2) (k := 1) dX2_push_32 rfl in_2 (Nat.le_of_ble_eq_true rfl) wd_395 rfl h2 g4 ?_
  refine Rn_iconst dX2_push_35 rfl ?_
  refine Rn_iadd dX2_push_36 ?_
  rw [w32_id b5.1 b5.2]
  refine Rn_putfield (ci := 2) (k := 1) dX2_push_37 rfl in_2 tyX2_ok nmX2 (Nat.le_of_ble_eq_true rfl) wd_395 rfl (Or.inl rfl) trivial m6 h2 ?_
  exact k
theorem BX2_push_40 {d bc bs : Nat} {h : aH} {n : Nat} {Q : aQ} {r0 : Option Nat} {x1 : Int} (k : Q none h n) : Rn d (bc) (bs) mX2_push 40 [some (vR r0), some (vI x1)] [] h n Q := by
  exact Rn_return rfl dX2_push_40 k
theorem dX2_pop_0 : decode cX2_pop 0 = .ok (.aload_n 0, 1) := by decide +kernel
theorem dX2_pop_1 : decode cX2_pop 1 = .ok (.getfield 15, 3) := by decide +kernel
theorem dX2_pop_4 : decode cX2_pop 4 = .ok (.ifCond .le 15, 3) := by decide +kernel
theorem dX2_pop_7 : decode cX2_pop 7 = .ok (.aload_n 0, 1) := by decide +kernel
theorem dX2_pop_8 : decode cX2_pop 8 = .ok (.getfield 15, 3) := by decide +kernel
theorem dX2_pop_11 : decode cX2_pop 11 = .ok (.aload_n 0, 1) := by decide +kernel
theorem dX2_pop_12 : decode cX2_pop 12 = .ok (.getfield 9, 3) := by decide +kernel
theorem dX2_pop_15 : decode cX2_pop 15 = .ok (.arraylength, 1) := by decide +kernel
theorem dX2_pop_16 : decode cX2_pop 16 = .ok (.if_icmp .le 5, 3) := by decide +kernel
theorem dX2_pop_19 : decode cX2_pop 19 = .ok (.iconst 0, 1) := by decide +kernel
theorem dX2_pop_20 : decode cX2_pop 20 = .ok (.ireturn, 1) := by decide +kernel
theorem dX2_pop_21 : decode cX2_pop 21 = .ok (.aload_n 0, 1) := by decide +kernel
theorem dX2_pop_22 : decode cX2_pop 22 = .ok (.dup, 1) := by decide +kernel
theorem dX2_pop_23 : decode cX2_pop 23 = .ok (.getfield 15, 3) := by decide +kernel
theorem dX2_pop_26 : decode cX2_pop 26 = .ok (.iconst 1, 1) := by decide +kernel
theorem dX2_pop_27 : decode cX2_pop 27 = .ok (.isub, 1) := by decide +kernel
theorem dX2_pop_28 : decode cX2_pop 28 = .ok (.putfield 15, 3) := by decide +kernel
theorem dX2_pop_31 : decode cX2_pop 31 = .ok (.aload_n 0, 1) := by decide +kernel
theorem dX2_pop_32 : decode cX2_pop 32 = .ok (.getfield 9, 3) := by decide +kernel
theorem dX2_pop_35 : decode cX2_pop 35 = .ok (.aload_n 0, 1) := by decide +kernel
theorem dX2_pop_36 : decode cX2_pop 36 = .ok (.getfield 15, 3) := by decide +kernel
theorem dX2_pop_39 : decode cX2_pop 39 = .ok (.iaload, 1) := by decide +kernel
theorem dX2_pop_40 : decode cX2_pop 40 = .ok (.ireturn, 1) := by decide +kernel
theorem BX2_pop_0 {d bc bs : Nat} {h : aH} {n : Nat} {Q : aQ} {ar0 : Nat} {f1 : List aV} {v3 : Int} (h2 : h ar0 = cO 2 f1) (g4 : f1[1]? = some (vI v3)) (kt : v3 ≤ 0 → Rn d bc bs mX2_pop 19 [some (vR (some ar0))] [] h n Q) (kf : 0 < v3 → Rn d bc bs mX2_pop 7 [some (vR (some ar0))] [] h n Q) : Rn d (bc) (bs) mX2_pop 0 [some (vR (some ar0))] [] h n Q := by
  refine Rn_aload_n dX2_pop_0 rfl rfl rfl ?_
  refine Rn_getfield (ci := 2) (k := 1) dX2_pop_1 rfl in_2 (Nat.le_of_ble_eq_true rfl) wd_395 rfl h2 g4 ?_
  refine Rn_ifle (tgt := 19) dX2_pop_4 rfl ?_ ?_
  · exact kt
  · exact kf
theorem BX2_pop_7 {d bc bs : Nat} {h : aH} {n : Nat} {Q : aQ} {ar0 at5 : Nat} {f1 : List aV} {v3 : Int} {w7 : List Int} (h2 : h ar0 = cO 2 f1) (g4 : f1[1]? = some (vI v3)) (g6 : f1[0]? = some (vR (some at5))) (h8 : h at5 = cI w7) (y9 : w7.length < 2147483648) (z10 : at5 ≠ 0) (kt : v3 ≤ (w7.length : Int) → Rn d bc bs mX2_pop 21 [some (vR (some ar0))] [] h n Q) (kf : (w7.length : Int) < v3 → Rn d bc bs mX2_pop 19 [some (vR (some ar0))] [] h n Q) : Rn d (bc) (bs) mX2_pop 7 [some (vR (some ar0))] [] h n Q := by
  refine Rn_aload_n dX2_pop_7 rfl rfl rfl ?_
  refine Rn_getfield (ci := 2) (k := 1) dX2_pop_8 rfl in_2 (Nat.le_of_ble_eq_true rfl) wd_395 rfl h2 g4 ?_
  refine Rn_aload_n dX2_pop_11 rfl rfl rfl ?_
  refine Rn_getfield (ci := 2) (k := 0) dX2_pop_12 rfl in_2 (Nat.le_of_ble_eq_true rfl) wd_394 rfl h2 g6 ?_
  refine Rn_alenI dX2_pop_15 z10 h8 y9 ?_
  refine Rn_icmple (tgt := 21) dX2_pop_16 rfl ?_ ?_
  · exact kt
  · exact kf
theorem BX2_pop_19 {d bc bs : Nat} {h : aH} {n : Nat} {Q : aQ} {r0 : Option Nat} (k : Q (some (vI 0)) h n) : Rn d (bc) (bs) mX2_pop 19 [some (vR r0)] [] h n Q := by
  refine Rn_iconst dX2_pop_19 rfl ?_
  exact Rn_ireturn rfl dX2_pop_20 k
theorem BX2_pop_21 {d bc bs : Nat} {h : aH} {n : Nat} {Q : aQ} {ar0 : Nat} {f1 : List aV} {v3 : Int} (h2 : h ar0 = cO 2 f1) (g4 : f1[1]? = some (vI v3)) (b5 : -2147483648 ≤ v3 - 1 ∧ v3 - 1 < 2147483648) (m6 : 1 < f1.length) (k : Rn d bc bs mX2_pop 31 [some (vR (some ar0))] [] (up h ar0 (cO 2 (f1.set 1 (vI (v3 - 1))))) n Q) : Rn d (bc) (bs) mX2_pop 21 [some (vR (some ar0))] [] h n Q := by
  refine Rn_aload_n dX2_pop_21 rfl rfl rfl ?_
  refine Rn_dup dX2_pop_22 rfl ?_
  refine Rn_getfield (ci := 2) (k := 1) dX2_pop_23 rfl in_2 (Nat.le_of_ble_eq_true rfl) wd_395 rfl h2 g4 ?_
  refine Rn_iconst dX2_pop_26 rfl ?_
  refine Rn_isub dX2_pop_27 ?_
  rw [w32_id b5.1 b5.2]
  refine Rn_putfield (ci := 2) (k := 1) dX2_pop_28 rfl in_2 tyX2_ok nmX2 (Nat.le_of_ble_eq_true rfl) wd_395 rfl (Or.inl rfl) trivial m6 h2 ?_
  exact k
theorem BX2_pop_31 {d bc bs : Nat} {h : aH} {n : Nat} {Q : aQ} {ar0 at3 : Nat} {f1 : List aV} {v5 v9 : Int} {w7 : List Int} (h2 : h ar0 = cO 2 f1) (g4 : f1[0]? = some (vR (some at3))) (g6 : f1[1]? = some (vI v5)) (h8 : h at3 = cI w7) (i10 : 0 ≤ v5) (g11 : w7[(v5 : Int).toNat]? = some v9) (k : Q (some (vI v9)) h n) : Rn d (bc) (bs) mX2_pop 31 [some (vR (some ar0))] [] h n Q := by
  refine Rn_aload_n dX2_pop_31 rfl rfl rfl ?_
  refine Rn_getfield (ci := 2) (k := 0) dX2_pop_32 rfl in_2 (Nat.le_of_ble_eq_true rfl) wd_394 rfl h2 g4 ?_
  refine Rn_aload_n dX2_pop_35 rfl rfl rfl ?_
  refine Rn_getfield (ci := 2) (k := 1) dX2_pop_36 rfl in_2 (Nat.le_of_ble_eq_true rfl) wd_395 rfl h2 g6 ?_
  refine Rn_iaload dX2_pop_39 h8 i10 g11 ?_
  exact Rn_ireturn rfl dX2_pop_40 k
theorem dX2_named_0 : decode cX2_named 0 = .ok (.iload_n 0, 1) := by decide +kernel
theorem dX2_named_1 : decode cX2_named 1 = .ok (.tableswitch 99 23 29 #[43, 48, 60, 67, 78, 85, 92], 43) := by decide +kernel
theorem dX2_named_44 : decode cX2_named 44 = .ok (.aload_n 1, 1) := by decide +kernel
theorem dX2_named_45 : decode cX2_named 45 = .ok (.getfield 28, 3) := by decide +kernel
theorem dX2_named_48 : decode cX2_named 48 = .ok (.ireturn, 1) := by decide +kernel
theorem dX2_named_49 : decode cX2_named 49 = .ok (.aload_n 1, 1) := by decide +kernel
theorem dX2_named_50 : decode cX2_named 50 = .ok (.getfield 28, 3) := by decide +kernel
theorem dX2_named_53 : decode cX2_named 53 = .ok (.aload_n 1, 1) := by decide +kernel
theorem dX2_named_54 : decode cX2_named 54 = .ok (.iload_n 3, 1) := by decide +kernel
theorem dX2_named_55 : decode cX2_named 55 = .ok (.iconst 5, 1) := by decide +kernel
theorem dX2_named_56 : decode cX2_named 56 = .ok (.invokevirtual 24, 3) := by decide +kernel
theorem dX2_named_59 : decode cX2_named 59 = .ok (.isub, 1) := by decide +kernel
theorem dX2_named_60 : decode cX2_named 60 = .ok (.ireturn, 1) := by decide +kernel
theorem dX2_named_61 : decode cX2_named 61 = .ok (.aload_n 1, 1) := by decide +kernel
theorem dX2_named_62 : decode cX2_named 62 = .ok (.iload_n 3, 1) := by decide +kernel
theorem dX2_named_63 : decode cX2_named 63 = .ok (.iconst 3, 1) := by decide +kernel
theorem dX2_named_64 : decode cX2_named 64 = .ok (.invokevirtual 24, 3) := by decide +kernel
theorem dX2_named_67 : decode cX2_named 67 = .ok (.ireturn, 1) := by decide +kernel
theorem dX2_named_68 : decode cX2_named 68 = .ok (.aload_n 2, 1) := by decide +kernel
theorem dX2_named_69 : decode cX2_named 69 = .ok (.aload_n 1, 1) := by decide +kernel
theorem dX2_named_70 : decode cX2_named 70 = .ok (.iload_n 3, 1) := by decide +kernel
theorem dX2_named_71 : decode cX2_named 71 = .ok (.iconst 1, 1) := by decide +kernel
theorem dX2_named_72 : decode cX2_named 72 = .ok (.invokevirtual 24, 3) := by decide +kernel
theorem dX2_named_75 : decode cX2_named 75 = .ok (.invokevirtual 69, 3) := by decide +kernel
theorem dX2_named_78 : decode cX2_named 78 = .ok (.ireturn, 1) := by decide +kernel
theorem dX2_named_79 : decode cX2_named 79 = .ok (.aload_n 1, 1) := by decide +kernel
theorem dX2_named_80 : decode cX2_named 80 = .ok (.iload_n 3, 1) := by decide +kernel
theorem dX2_named_81 : decode cX2_named 81 = .ok (.iconst 2, 1) := by decide +kernel
theorem dX2_named_82 : decode cX2_named 82 = .ok (.invokevirtual 24, 3) := by decide +kernel
theorem dX2_named_85 : decode cX2_named 85 = .ok (.ireturn, 1) := by decide +kernel
theorem dX2_named_86 : decode cX2_named 86 = .ok (.aload_n 1, 1) := by decide +kernel
theorem dX2_named_87 : decode cX2_named 87 = .ok (.iload_n 3, 1) := by decide +kernel
theorem dX2_named_88 : decode cX2_named 88 = .ok (.iconst 0, 1) := by decide +kernel
theorem dX2_named_89 : decode cX2_named 89 = .ok (.invokevirtual 24, 3) := by decide +kernel
theorem dX2_named_92 : decode cX2_named 92 = .ok (.ireturn, 1) := by decide +kernel
theorem dX2_named_93 : decode cX2_named 93 = .ok (.aload_n 1, 1) := by decide +kernel
theorem dX2_named_94 : decode cX2_named 94 = .ok (.iload_n 3, 1) := by decide +kernel
theorem dX2_named_95 : decode cX2_named 95 = .ok (.iconst 1, 1) := by decide +kernel
theorem dX2_named_96 : decode cX2_named 96 = .ok (.invokevirtual 24, 3) := by decide +kernel
theorem dX2_named_99 : decode cX2_named 99 = .ok (.ireturn, 1) := by decide +kernel
theorem dX2_named_100 : decode cX2_named 100 = .ok (.aload_n 1, 1) := by decide +kernel
theorem dX2_named_101 : decode cX2_named 101 = .ok (.aload_n 1, 1) := by decide +kernel
theorem dX2_named_102 : decode cX2_named 102 = .ok (.iload_n 3, 1) := by decide +kernel
theorem dX2_named_103 : decode cX2_named 103 = .ok (.iconst 2, 1) := by decide +kernel
theorem dX2_named_104 : decode cX2_named 104 = .ok (.invokevirtual 24, 3) := by decide +kernel
theorem dX2_named_107 : decode cX2_named 107 = .ok (.invokevirtual 99, 3) := by decide +kernel
theorem dX2_named_110 : decode cX2_named 110 = .ok (.ireturn, 1) := by decide +kernel
theorem BX2_named_0 {d bc bs : Nat} {h : aH} {n : Nat} {Q : aQ} {x0 x3 : Int} {r1 r2 : Option Nat} (kd : (x0 < 23 ∨ 29 < x0) → Rn d bc bs mX2_named 100 [some (vI x0), some (vR r1), some (vR r2), some (vI x3)] [] h n Q) (k23 : x0 = 23 → Rn d bc bs mX2_named 44 [some (vI x0), some (vR r1), some (vR r2), some (vI x3)] [] h n Q) (k24 : x0 = 24 → Rn d bc bs mX2_named 49 [some (vI x0), some (vR r1), some (vR r2), some (vI x3)] [] h n Q) (k25 : x0 = 25 → Rn d bc bs mX2_named 61 [some (vI x0), some (vR r1), some (vR r2), some (vI x3)] [] h n Q) (k26 : x0 = 26 → Rn d bc bs mX2_named 68 [some (vI x0), some (vR r1), some (vR r2), some (vI x3)] [] h n Q) (k27 : x0 = 27 → Rn d bc bs mX2_named 79 [some (vI x0), some (vR r1), some (vR r2), some (vI x3)] [] h n Q) (k28 : x0 = 28 → Rn d bc bs mX2_named 86 [some (vI x0), some (vR r1), some (vR r2), some (vI x3)] [] h n Q) (k29 : x0 = 29 → Rn d bc bs mX2_named 93 [some (vI x0), some (vR r1), some (vR r2), some (vI x3)] [] h n Q) : Rn d (bc) (bs) mX2_named 0 [some (vI x0), some (vR r1), some (vR r2), some (vI x3)] [] h n Q := by
  refine Rn_iload_n dX2_named_0 rfl rfl ?_
  by_cases hq : x0 < 23 ∨ 29 < x0
  · exact Rn_tableOut (tgt := 100) dX2_named_1 hq rfl (kd hq)
  rcases (show x0 = 23 ∨ x0 = 24 ∨ x0 = 25 ∨ x0 = 26 ∨ x0 = 27 ∨ x0 = 28 ∨ x0 = 29 by omega) with hz | hz | hz | hz | hz | hz | hz
  · exact Rn_tableIn (tgt := 44) dX2_named_1 (by omega) (by omega) (by rw [hz] <;> rfl) rfl (k23 hz)
  · exact Rn_tableIn (tgt := 49) dX2_named_1 (by omega) (by omega) (by rw [hz] <;> rfl) rfl (k24 hz)
  · exact Rn_tableIn (tgt := 61) dX2_named_1 (by omega) (by omega) (by rw [hz] <;> rfl) rfl (k25 hz)
  · exact Rn_tableIn (tgt := 68) dX2_named_1 (by omega) (by omega) (by rw [hz] <;> rfl) rfl (k26 hz)
  · exact Rn_tableIn (tgt := 79) dX2_named_1 (by omega) (by omega) (by rw [hz] <;> rfl) rfl (k27 hz)
  · exact Rn_tableIn (tgt := 86) dX2_named_1 (by omega) (by omega) (by rw [hz] <;> rfl) rfl (k28 hz)
  · exact Rn_tableIn (tgt := 93) dX2_named_1 (by omega) (by omega) (by rw [hz] <;> rfl) rfl (k29 hz)
theorem BX2_named_44 {d bc bs : Nat} {h : aH} {n : Nat} {Q : aQ} {x0 x3 v3 : Int} {ar1 : Nat} {r2 : Option Nat} {f1 : List aV} (h2 : h ar1 = cO 6 f1) (g4 : f1[3]? = some (vI v3)) (k : Q (some (vI v3)) h n) : Rn d (bc) (bs) mX2_named 44 [some (vI x0), some (vR (some ar1)), some (vR r2), some (vI x3)] [] h n Q := by
  refine Rn_aload_n dX2_named_44 rfl rfl rfl ?_
  refine Rn_getfield (ci := 6) (k := 3) dX2_named_45 rfl in_6 (Nat.le_of_ble_eq_true rfl) wd_209 rfl h2 g4 ?_
  exact Rn_ireturn rfl dX2_named_48 k
theorem BX2_named_49 {d bc bs : Nat} {h : aH} {n : Nat} {Q : aQ} {x0 x3 v3 : Int} {ar1 : Nat} {r2 : Option Nat} {f1 : List aV} (h2 : h ar1 = cO 6 f1) (g4 : f1[3]? = some (vI v3)) (k : Rn d 0 0 mX6_get 0 [some (vR (some ar1)), some (vI x3), some (vI 5), none] [] h n (fun v h1 n1 => Rn (d + 1) bc bs mX2_named 59 [some (vI x0), some (vR (some ar1)), some (vR r2), some (vI x3)] (v.toList ++ [vI v3]) h1 n1 Q)) : Rn (d + 1) (bc) (bs) mX2_named 49 [some (vI x0), some (vR (some ar1)), some (vR r2), some (vI x3)] [] h n Q := by
  refine Rn_aload_n dX2_named_49 rfl rfl rfl ?_
  refine Rn_getfield (ci := 6) (k := 3) dX2_named_50 rfl in_6 (Nat.le_of_ble_eq_true rfl) wd_209 rfl h2 g4 ?_
  refine Rn_aload_n dX2_named_53 rfl rfl rfl ?_
  refine Rn_iload_n dX2_named_54 rfl rfl ?_
  refine Rn_iconst dX2_named_55 rfl ?_
  exact Rn_callV (ci := 6) (avs := [vI x3, vI 5]) (st := [vI v3]) (bc1 := 0) (bs1 := 0) (bc2 := bc) (bs2 := bs) fx_X6_get dX2_named_56 wd_883 wd_840 wd_841 rfl h2 rfl (Nat.le_of_ble_eq_true rfl) (Nat.le_of_ble_eq_true rfl) (by omega) (by omega) (ls1 := [some (vR (some ar1)), some (vI x3), some (vI 5), none]) rfl k
theorem BX2_named_59 {d bc bs : Nat} {h : aH} {n : Nat} {Q : aQ} {x0 x3 s0 s1 : Int} {r1 r2 : Option Nat} (b1 : -2147483648 ≤ s0 - s1 ∧ s0 - s1 < 2147483648) (k : Q (some (vI (s0 - s1))) h n) : Rn d (bc) (bs) mX2_named 59 [some (vI x0), some (vR r1), some (vR r2), some (vI x3)] [vI s1, vI s0] h n Q := by
  refine Rn_isub dX2_named_59 ?_
  rw [w32_id b1.1 b1.2]
  exact Rn_ireturn rfl dX2_named_60 k
theorem BX2_named_61 {d bc bs : Nat} {h : aH} {n : Nat} {Q : aQ} {x0 x3 : Int} {ar1 : Nat} {r2 : Option Nat} {f1 : List aV} (h2 : h ar1 = cO 6 f1) (k : Rn d 0 0 mX6_get 0 [some (vR (some ar1)), some (vI x3), some (vI 3), none] [] h n (fun v h1 n1 => Rn (d + 1) bc bs mX2_named 67 [some (vI x0), some (vR (some ar1)), some (vR r2), some (vI x3)] (v.toList ++ []) h1 n1 Q)) : Rn (d + 1) (bc) (bs) mX2_named 61 [some (vI x0), some (vR (some ar1)), some (vR r2), some (vI x3)] [] h n Q := by
  refine Rn_aload_n dX2_named_61 rfl rfl rfl ?_
  refine Rn_iload_n dX2_named_62 rfl rfl ?_
  refine Rn_iconst dX2_named_63 rfl ?_
  exact Rn_callV (ci := 6) (avs := [vI x3, vI 3]) (st := []) (bc1 := 0) (bs1 := 0) (bc2 := bc) (bs2 := bs) fx_X6_get dX2_named_64 wd_883 wd_840 wd_841 rfl h2 rfl (Nat.le_of_ble_eq_true rfl) (Nat.le_of_ble_eq_true rfl) (by omega) (by omega) (ls1 := [some (vR (some ar1)), some (vI x3), some (vI 3), none]) rfl k
theorem BX2_named_67 {d bc bs : Nat} {h : aH} {n : Nat} {Q : aQ} {x0 x3 s0 : Int} {r1 r2 : Option Nat} (k : Q (some (vI s0)) h n) : Rn d (bc) (bs) mX2_named 67 [some (vI x0), some (vR r1), some (vR r2), some (vI x3)] [vI s0] h n Q := by
  exact Rn_ireturn rfl dX2_named_67 k
theorem BX2_named_68 {d bc bs : Nat} {h : aH} {n : Nat} {Q : aQ} {x0 x3 : Int} {ar1 : Nat} {r2 : Option Nat} {f1 : List aV} (h2 : h ar1 = cO 6 f1) (k : Rn d 0 0 mX6_get 0 [some (vR (some ar1)), some (vI x3), some (vI 1), none] [] h n (fun v h1 n1 => Rn (d + 1) bc bs mX2_named 75 [some (vI x0), some (vR (some ar1)), some (vR r2), some (vI x3)] (v.toList ++ [vR r2]) h1 n1 Q)) : Rn (d + 1) (bc) (bs) mX2_named 68 [some (vI x0), some (vR (some ar1)), some (vR r2), some (vI x3)] [] h n Q := by
  refine Rn_aload_n dX2_named_68 rfl rfl rfl ?_
  refine Rn_aload_n dX2_named_69 rfl rfl rfl ?_
  refine Rn_iload_n dX2_named_70 rfl rfl ?_
  refine Rn_iconst dX2_named_71 rfl ?_
  exact Rn_callV (ci := 6) (avs := [vI x3, vI 1]) (st := [vR r2]) (bc1 := 0) (bs1 := 0) (bc2 := bc) (bs2 := bs) fx_X6_get dX2_named_72 wd_883 wd_840 wd_841 rfl h2 rfl (Nat.le_of_ble_eq_true rfl) (Nat.le_of_ble_eq_true rfl) (by omega) (by omega) (ls1 := [some (vR (some ar1)), some (vI x3), some (vI 1), none]) rfl k
theorem BX2_named_75 {d bc bs : Nat} {h : aH} {n : Nat} {Q : aQ} {x0 x3 s1 : Int} {r1 r2 : Option Nat} {aq0 : Nat} {f1 : List aV} (h2 : h aq0 = cO 7 f1) (k : Rn d 0 0 mX7_luckOf 0 [some (vR (some aq0)), some (vI s1)] [] h n (fun v h1 n1 => Rn (d + 1) bc bs mX2_named 78 [some (vI x0), some (vR r1), some (vR r2), some (vI x3)] (v.toList ++ []) h1 n1 Q)) : Rn (d + 1) (bc) (bs) mX2_named 75 [some (vI x0), some (vR r1), some (vR r2), some (vI x3)] [vI s1, vR (some aq0)] h n Q := by
  exact Rn_callV (ci := 7) (avs := [vI s1]) (st := []) (bc1 := 0) (bs1 := 0) (bc2 := bc) (bs2 := bs) fx_X7_luckOf dX2_named_75 wd_912 wd_913 wd_914 rfl h2 rfl (Nat.le_of_ble_eq_true rfl) (Nat.le_of_ble_eq_true rfl) (by omega) (by omega) (ls1 := [some (vR (some aq0)), some (vI s1)]) rfl k
theorem BX2_named_78 {d bc bs : Nat} {h : aH} {n : Nat} {Q : aQ} {x0 x3 s0 : Int} {r1 r2 : Option Nat} (k : Q (some (vI s0)) h n) : Rn d (bc) (bs) mX2_named 78 [some (vI x0), some (vR r1), some (vR r2), some (vI x3)] [vI s0] h n Q := by
  exact Rn_ireturn rfl dX2_named_78 k
theorem BX2_named_79 {d bc bs : Nat} {h : aH} {n : Nat} {Q : aQ} {x0 x3 : Int} {ar1 : Nat} {r2 : Option Nat} {f1 : List aV} (h2 : h ar1 = cO 6 f1) (k : Rn d 0 0 mX6_get 0 [some (vR (some ar1)), some (vI x3), some (vI 2), none] [] h n (fun v h1 n1 => Rn (d + 1) bc bs mX2_named 85 [some (vI x0), some (vR (some ar1)), some (vR r2), some (vI x3)] (v.toList ++ []) h1 n1 Q)) : Rn (d + 1) (bc) (bs) mX2_named 79 [some (vI x0), some (vR (some ar1)), some (vR r2), some (vI x3)] [] h n Q := by
  refine Rn_aload_n dX2_named_79 rfl rfl rfl ?_
  refine Rn_iload_n dX2_named_80 rfl rfl ?_
  refine Rn_iconst dX2_named_81 rfl ?_
  exact Rn_callV (ci := 6) (avs := [vI x3, vI 2]) (st := []) (bc1 := 0) (bs1 := 0) (bc2 := bc) (bs2 := bs) fx_X6_get dX2_named_82 wd_883 wd_840 wd_841 rfl h2 rfl (Nat.le_of_ble_eq_true rfl) (Nat.le_of_ble_eq_true rfl) (by omega) (by omega) (ls1 := [some (vR (some ar1)), some (vI x3), some (vI 2), none]) rfl k
theorem BX2_named_85 {d bc bs : Nat} {h : aH} {n : Nat} {Q : aQ} {x0 x3 s0 : Int} {r1 r2 : Option Nat} (k : Q (some (vI s0)) h n) : Rn d (bc) (bs) mX2_named 85 [some (vI x0), some (vR r1), some (vR r2), some (vI x3)] [vI s0] h n Q := by
  exact Rn_ireturn rfl dX2_named_85 k
theorem BX2_named_86 {d bc bs : Nat} {h : aH} {n : Nat} {Q : aQ} {x0 x3 : Int} {ar1 : Nat} {r2 : Option Nat} {f1 : List aV} (h2 : h ar1 = cO 6 f1) (k : Rn d 0 0 mX6_get 0 [some (vR (some ar1)), some (vI x3), some (vI 0), none] [] h n (fun v h1 n1 => Rn (d + 1) bc bs mX2_named 92 [some (vI x0), some (vR (some ar1)), some (vR r2), some (vI x3)] (v.toList ++ []) h1 n1 Q)) : Rn (d + 1) (bc) (bs) mX2_named 86 [some (vI x0), some (vR (some ar1)), some (vR r2), some (vI x3)] [] h n Q := by
  refine Rn_aload_n dX2_named_86 rfl rfl rfl ?_
  refine Rn_iload_n dX2_named_87 rfl rfl ?_
  refine Rn_iconst dX2_named_88 rfl ?_
  exact Rn_callV (ci := 6) (avs := [vI x3, vI 0]) (st := []) (bc1 := 0) (bs1 := 0) (bc2 := bc) (bs2 := bs) fx_X6_get dX2_named_89 wd_883 wd_840 wd_841 rfl h2 rfl (Nat.le_of_ble_eq_true rfl) (Nat.le_of_ble_eq_true rfl) (by omega) (by omega) (ls1 := [some (vR (some ar1)), some (vI x3), some (vI 0), none]) rfl k
theorem BX2_named_92 {d bc bs : Nat} {h : aH} {n : Nat} {Q : aQ} {x0 x3 s0 : Int} {r1 r2 : Option Nat} (k : Q (some (vI s0)) h n) : Rn d (bc) (bs) mX2_named 92 [some (vI x0), some (vR r1), some (vR r2), some (vI x3)] [vI s0] h n Q := by
  exact Rn_ireturn rfl dX2_named_92 k
theorem BX2_named_93 {d bc bs : Nat} {h : aH} {n : Nat} {Q : aQ} {x0 x3 : Int} {ar1 : Nat} {r2 : Option Nat} {f1 : List aV} (h2 : h ar1 = cO 6 f1) (k : Rn d 0 0 mX6_get 0 [some (vR (some ar1)), some (vI x3), some (vI 1), none] [] h n (fun v h1 n1 => Rn (d + 1) bc bs mX2_named 99 [some (vI x0), some (vR (some ar1)), some (vR r2), some (vI x3)] (v.toList ++ []) h1 n1 Q)) : Rn (d + 1) (bc) (bs) mX2_named 93 [some (vI x0), some (vR (some ar1)), some (vR r2), some (vI x3)] [] h n Q := by
  refine Rn_aload_n dX2_named_93 rfl rfl rfl ?_
  refine Rn_iload_n dX2_named_94 rfl rfl ?_
  refine Rn_iconst dX2_named_95 rfl ?_
  exact Rn_callV (ci := 6) (avs := [vI x3, vI 1]) (st := []) (bc1 := 0) (bs1 := 0) (bc2 := bc) (bs2 := bs) fx_X6_get dX2_named_96 wd_883 wd_840 wd_841 rfl h2 rfl (Nat.le_of_ble_eq_true rfl) (Nat.le_of_ble_eq_true rfl) (by omega) (by omega) (ls1 := [some (vR (some ar1)), some (vI x3), some (vI 1), none]) rfl k
theorem BX2_named_99 {d bc bs : Nat} {h : aH} {n : Nat} {Q : aQ} {x0 x3 s0 : Int} {r1 r2 : Option Nat} (k : Q (some (vI s0)) h n) : Rn d (bc) (bs) mX2_named 99 [some (vI x0), some (vR r1), some (vR r2), some (vI x3)] [vI s0] h n Q := by
  exact Rn_ireturn rfl dX2_named_99 k
theorem BX2_named_100 {d bc bs : Nat} {h : aH} {n : Nat} {Q : aQ} {x0 x3 : Int} {ar1 : Nat} {r2 : Option Nat} {f1 : List aV} (h2 : h ar1 = cO 6 f1) (k : Rn d 0 0 mX6_get 0 [some (vR (some ar1)), some (vI x3), some (vI 2), none] [] h n (fun v h1 n1 => Rn (d + 1) bc bs mX2_named 107 [some (vI x0), some (vR (some ar1)), some (vR r2), some (vI x3)] (v.toList ++ [vR (some ar1)]) h1 n1 Q)) : Rn (d + 1) (bc) (bs) mX2_named 100 [some (vI x0), some (vR (some ar1)), some (vR r2), some (vI x3)] [] h n Q := by
  refine Rn_aload_n dX2_named_100 rfl rfl rfl ?_
  refine Rn_aload_n dX2_named_101 rfl rfl rfl ?_
  refine Rn_iload_n dX2_named_102 rfl rfl ?_
  refine Rn_iconst dX2_named_103 rfl ?_
  exact Rn_callV (ci := 6) (avs := [vI x3, vI 2]) (st := [vR (some ar1)]) (bc1 := 0) (bs1 := 0) (bc2 := bc) (bs2 := bs) fx_X6_get dX2_named_104 wd_883 wd_840 wd_841 rfl h2 rfl (Nat.le_of_ble_eq_true rfl) (Nat.le_of_ble_eq_true rfl) (by omega) (by omega) (ls1 := [some (vR (some ar1)), some (vI x3), some (vI 2), none]) rfl k
theorem BX2_named_107 {d bc bs : Nat} {h : aH} {n : Nat} {Q : aQ} {x0 x3 s1 : Int} {r1 r2 : Option Nat} {aq0 : Nat} {f1 : List aV} (h2 : h aq0 = cO 6 f1) (k : Rn d 0 0 mX6_countAfloatAt 0 [some (vR (some aq0)), some (vI s1), none, none, none] [] h n (fun v h1 n1 => Rn (d + 1) bc bs mX2_named 110 [some (vI x0), some (vR r1), some (vR r2), some (vI x3)] (v.toList ++ []) h1 n1 Q)) : Rn (d + 1) (bc) (bs) mX2_named 107 [some (vI x0), some (vR r1), some (vR r2), some (vI x3)] [vI s1, vR (some aq0)] h n Q := by
  exact Rn_callV (ci := 6) (avs := [vI s1]) (st := []) (bc1 := 0) (bs1 := 0) (bc2 := bc) (bs2 := bs) fx_X6_countAfloatAt dX2_named_107 wd_916 wd_917 wd_918 rfl h2 rfl (Nat.le_of_ble_eq_true rfl) (Nat.le_of_ble_eq_true rfl) (by omega) (by omega) (ls1 := [some (vR (some aq0)), some (vI s1), none, none, none]) rfl k
theorem BX2_named_110 {d bc bs : Nat} {h : aH} {n : Nat} {Q : aQ} {x0 x3 s0 : Int} {r1 r2 : Option Nat} (k : Q (some (vI s0)) h n) : Rn d (bc) (bs) mX2_named 110 [some (vI x0), some (vR r1), some (vR r2), some (vI x3)] [vI s0] h n Q := by
  exact Rn_ireturn rfl dX2_named_110 k
theorem dX2_joined_0 : decode cX2_joined 0 = .ok (.iload_n 0, 1) := by decide +kernel
theorem dX2_joined_1 : decode cX2_joined 1 = .ok (.lookupswitch 132 #[(9, 67), (10, 76), (11, 85), (12, 94), (32, 111), (39, 128), (40, 124)], 67) := by decide +kernel
theorem dX2_joined_68 : decode cX2_joined 68 = .ok (.iload_n 1, 1) := by decide +kernel
theorem dX2_joined_69 : decode cX2_joined 69 = .ok (.i2l, 1) := by decide +kernel
theorem dX2_joined_70 : decode cX2_joined 70 = .ok (.iload_n 2, 1) := by decide +kernel
theorem dX2_joined_71 : decode cX2_joined 71 = .ok (.i2l, 1) := by decide +kernel
theorem dX2_joined_72 : decode cX2_joined 72 = .ok (.ladd, 1) := by decide +kernel
theorem dX2_joined_73 : decode cX2_joined 73 = .ok (.invokestatic 102, 3) := by decide +kernel
theorem dX2_joined_76 : decode cX2_joined 76 = .ok (.ireturn, 1) := by decide +kernel
theorem dX2_joined_77 : decode cX2_joined 77 = .ok (.iload_n 1, 1) := by decide +kernel
theorem dX2_joined_78 : decode cX2_joined 78 = .ok (.i2l, 1) := by decide +kernel
theorem dX2_joined_79 : decode cX2_joined 79 = .ok (.iload_n 2, 1) := by decide +kernel
theorem dX2_joined_80 : decode cX2_joined 80 = .ok (.i2l, 1) := by decide +kernel
theorem dX2_joined_81 : decode cX2_joined 81 = .ok (.lsub, 1) := by decide +kernel
theorem dX2_joined_82 : decode cX2_joined 82 = .ok (.invokestatic 102, 3) := by decide +kernel
theorem dX2_joined_85 : decode cX2_joined 85 = .ok (.ireturn, 1) := by decide +kernel
theorem dX2_joined_86 : decode cX2_joined 86 = .ok (.iload_n 1, 1) := by decide +kernel
theorem dX2_joined_87 : decode cX2_joined 87 = .ok (.i2l, 1) := by decide +kernel
theorem dX2_joined_88 : decode cX2_joined 88 = .ok (.iload_n 2, 1) := by decide +kernel
theorem dX2_joined_89 : decode cX2_joined 89 = .ok (.i2l, 1) := by decide +kernel
theorem dX2_joined_90 : decode cX2_joined 90 = .ok (.lmul, 1) := by decide +kernel
theorem dX2_joined_91 : decode cX2_joined 91 = .ok (.invokestatic 102, 3) := by decide +kernel
theorem dX2_joined_94 : decode cX2_joined 94 = .ok (.ireturn, 1) := by decide +kernel
theorem dX2_joined_95 : decode cX2_joined 95 = .ok (.iload_n 2, 1) := by decide +kernel
theorem dX2_joined_96 : decode cX2_joined 96 = .ok (.ifCond .ne 7, 3) := by decide +kernel
theorem dX2_joined_99 : decode cX2_joined 99 = .ok (.iconst 0, 1) := by decide +kernel
theorem dX2_joined_100 : decode cX2_joined 100 = .ok (.goto 11, 3) := by decide +kernel
theorem dX2_joined_103 : decode cX2_joined 103 = .ok (.iload_n 1, 1) := by decide +kernel
theorem dX2_joined_104 : decode cX2_joined 104 = .ok (.i2l, 1) := by decide +kernel
theorem dX2_joined_105 : decode cX2_joined 105 = .ok (.iload_n 2, 1) := by decide +kernel
theorem dX2_joined_106 : decode cX2_joined 106 = .ok (.i2l, 1) := by decide +kernel
theorem dX2_joined_107 : decode cX2_joined 107 = .ok (.ldiv, 1) := by decide +kernel
theorem dX2_joined_108 : decode cX2_joined 108 = .ok (.invokestatic 102, 3) := by decide +kernel
theorem dX2_joined_111 : decode cX2_joined 111 = .ok (.ireturn, 1) := by decide +kernel
theorem dX2_joined_112 : decode cX2_joined 112 = .ok (.lconst 0, 1) := by decide +kernel
theorem dX2_joined_113 : decode cX2_joined 113 = .ok (.iload_n 1, 1) := by decide +kernel
theorem dX2_joined_114 : decode cX2_joined 114 = .ok (.i2l, 1) := by decide +kernel
theorem dX2_joined_115 : decode cX2_joined 115 = .ok (.iload_n 2, 1) := by decide +kernel
theorem dX2_joined_116 : decode cX2_joined 116 = .ok (.i2l, 1) := by decide +kernel
theorem dX2_joined_117 : decode cX2_joined 117 = .ok (.lsub, 1) := by decide +kernel
theorem dX2_joined_118 : decode cX2_joined 118 = .ok (.invokestatic 106, 3) := by decide +kernel
theorem dX2_joined_121 : decode cX2_joined 121 = .ok (.invokestatic 102, 3) := by decide +kernel
theorem dX2_joined_124 : decode cX2_joined 124 = .ok (.ireturn, 1) := by decide +kernel
theorem dX2_joined_125 : decode cX2_joined 125 = .ok (.iload_n 1, 1) := by decide +kernel
theorem dX2_joined_126 : decode cX2_joined 126 = .ok (.iload_n 2, 1) := by decide +kernel
theorem dX2_joined_127 : decode cX2_joined 127 = .ok (.iand, 1) := by decide +kernel
theorem dX2_joined_128 : decode cX2_joined 128 = .ok (.ireturn, 1) := by decide +kernel
theorem dX2_joined_129 : decode cX2_joined 129 = .ok (.iload_n 1, 1) := by decide +kernel
theorem dX2_joined_130 : decode cX2_joined 130 = .ok (.iload_n 2, 1) := by decide +kernel
theorem dX2_joined_131 : decode cX2_joined 131 = .ok (.ior, 1) := by decide +kernel
theorem dX2_joined_132 : decode cX2_joined 132 = .ok (.ireturn, 1) := by decide +kernel
theorem dX2_joined_133 : decode cX2_joined 133 = .ok (.iload_n 0, 1) := by decide +kernel
theorem dX2_joined_134 : decode cX2_joined 134 = .ok (.iload_n 1, 1) := by decide +kernel
theorem dX2_joined_135 : decode cX2_joined 135 = .ok (.iload_n 2, 1) := by decide +kernel
theorem dX2_joined_136 : decode cX2_joined 136 = .ok (.invokestatic 109, 3) := by decide +kernel
theorem dX2_joined_139 : decode cX2_joined 139 = .ok (.ifCond .eq 7, 3) := by decide +kernel
theorem dX2_joined_142 : decode cX2_joined 142 = .ok (.iconst 1, 1) := by decide +kernel
theorem dX2_joined_143 : decode cX2_joined 143 = .ok (.goto 4, 3) := by decide +kernel
theorem dX2_joined_146 : decode cX2_joined 146 = .ok (.iconst 0, 1) := by decide +kernel
theorem dX2_joined_147 : decode cX2_joined 147 = .ok (.ireturn, 1) := by decide +kernel
theorem BX2_joined_0 {d bc bs : Nat} {h : aH} {n : Nat} {Q : aQ} {x0 x1 x2 : Int} (kd : (x0 ≠ 9 ∧ x0 ≠ 10 ∧ x0 ≠ 11 ∧ x0 ≠ 12 ∧ x0 ≠ 32 ∧ x0 ≠ 39 ∧ x0 ≠ 40) → Rn d bc bs mX2_joined 133 [some (vI x0), some (vI x1), some (vI x2)] [] h n Q) (k9 : x0 = 9 → Rn d bc bs mX2_joined 68 [some (vI x0), some (vI x1), some (vI x2)] [] h n Q) (k10 : x0 = 10 → Rn d bc bs mX2_joined 77 [some (vI x0), some (vI x1), some (vI x2)] [] h n Q) (k11 : x0 = 11 → Rn d bc bs mX2_joined 86 [some (vI x0), some (vI x1), some (vI x2)] [] h n Q) (k12 : x0 = 12 → Rn d bc bs mX2_joined 95 [some (vI x0), some (vI x1), some (vI x2)] [] h n Q) (k32 : x0 = 32 → Rn d bc bs mX2_joined 112 [some (vI x0), some (vI x1), some (vI x2)] [] h n Q) (k39 : x0 = 39 → Rn d bc bs mX2_joined 129 [some (vI x0), some (vI x1), some (vI x2)] [] h n Q) (k40 : x0 = 40 → Rn d bc bs mX2_joined 125 [some (vI x0), some (vI x1), some (vI x2)] [] h n Q) : Rn d (bc) (bs) mX2_joined 0 [some (vI x0), some (vI x1), some (vI x2)] [] h n Q := by
  refine Rn_iload_n dX2_joined_0 rfl rfl ?_
  by_cases hz9 : x0 = 9
  · exact Rn_lookup (tgt := 68) dX2_joined_1 rfl (by rw [hz9] <;> rfl) rfl (k9 hz9)
  by_cases hz10 : x0 = 10
  · exact Rn_lookup (tgt := 77) dX2_joined_1 rfl (by rw [hz10] <;> rfl) rfl (k10 hz10)
  by_cases hz11 : x0 = 11
  · exact Rn_lookup (tgt := 86) dX2_joined_1 rfl (by rw [hz11] <;> rfl) rfl (k11 hz11)
  by_cases hz12 : x0 = 12
  · exact Rn_lookup (tgt := 95) dX2_joined_1 rfl (by rw [hz12] <;> rfl) rfl (k12 hz12)
  by_cases hz32 : x0 = 32
  · exact Rn_lookup (tgt := 112) dX2_joined_1 rfl (by rw [hz32] <;> rfl) rfl (k32 hz32)
  by_cases hz39 : x0 = 39
  · exact Rn_lookup (tgt := 129) dX2_joined_1 rfl (by rw [hz39] <;> rfl) rfl (k39 hz39)
  by_cases hz40 : x0 = 40
  · exact Rn_lookup (tgt := 125) dX2_joined_1 rfl (by rw [hz40] <;> rfl) rfl (k40 hz40)
  exact Rn_lookup (off := 132) (tgt := 133) dX2_joined_1 rfl (by simp [Op.lookupswitch.offset, Ne.symm hz9, Ne.symm hz10, Ne.symm hz11, Ne.symm hz12, Ne.symm hz32, Ne.symm hz39, Ne.symm hz40]) rfl (kd ⟨hz9, hz10, hz11, hz12, hz32, hz39, hz40⟩)
theorem BX2_joined_68 {d bc bs : Nat} {h : aH} {n : Nat} {Q : aQ} {x0 x1 x2 : Int} (b1 : -9223372036854775808 ≤ x1 + x2 ∧ x1 + x2 < 9223372036854775808) (k : Rn d 0 0 mX2_limited 0 [some (vL (x1 + x2)), none] [] h n (fun v h1 n1 => Rn (d + 1) bc bs mX2_joined 76 [some (vI x0), some (vI x1), some (vI x2)] (v.toList ++ []) h1 n1 Q)) : Rn (d + 1) (bc) (bs) mX2_joined 68 [some (vI x0), some (vI x1), some (vI x2)] [] h n Q := by
  refine Rn_iload_n dX2_joined_68 rfl rfl ?_
  refine Rn_i2l dX2_joined_69 ?_
  refine Rn_iload_n dX2_joined_70 rfl rfl ?_
  refine Rn_i2l dX2_joined_71 ?_
  refine Rn_ladd dX2_joined_72 ?_
  rw [w64_id b1.1 b1.2]
  exact Rn_callS (avs := [vL (x1 + x2)]) (st := []) (bc1 := 0) (bs1 := 0) (bc2 := bc) (bs2 := bs) fx_X2_limited dX2_joined_73 (Or.inl wd_925) wd_926 rfl (Nat.le_of_ble_eq_true rfl) (Nat.le_of_ble_eq_true rfl) (by omega) (by omega) (ls1 := [some (vL (x1 + x2)), none]) rfl k
theorem BX2_joined_76 {d bc bs : Nat} {h : aH} {n : Nat} {Q : aQ} {x0 x1 x2 s0 : Int} (k : Q (some (vI s0)) h n) : Rn d (bc) (bs) mX2_joined 76 [some (vI x0), some (vI x1), some (vI x2)] [vI s0] h n Q := by
  exact Rn_ireturn rfl dX2_joined_76 k
theorem BX2_joined_77 {d bc bs : Nat} {h : aH} {n : Nat} {Q : aQ} {x0 x1 x2 : Int} (b1 : -9223372036854775808 ≤ x1 - x2 ∧ x1 - x2 < 9223372036854775808) (k : Rn d 0 0 mX2_limited 0 [some (vL (x1 - x2)), none] [] h n (fun v h1 n1 => Rn (d + 1) bc bs mX2_joined 85 [some (vI x0), some (vI x1), some (vI x2)] (v.toList ++ []) h1 n1 Q)) : Rn (d + 1) (bc) (bs) mX2_joined 77 [some (vI x0), some (vI x1), some (vI x2)] [] h n Q := by
  refine Rn_iload_n dX2_joined_77 rfl rfl ?_
  refine Rn_i2l dX2_joined_78 ?_
  refine Rn_iload_n dX2_joined_79 rfl rfl ?_
  refine Rn_i2l dX2_joined_80 ?_
  refine Rn_lsub dX2_joined_81 ?_
  rw [w64_id b1.1 b1.2]
  exact Rn_callS (avs := [vL (x1 - x2)]) (st := []) (bc1 := 0) (bs1 := 0) (bc2 := bc) (bs2 := bs) fx_X2_limited dX2_joined_82 (Or.inl wd_925) wd_926 rfl (Nat.le_of_ble_eq_true rfl) (Nat.le_of_ble_eq_true rfl) (by omega) (by omega) (ls1 := [some (vL (x1 - x2)), none]) rfl k
theorem BX2_joined_85 {d bc bs : Nat} {h : aH} {n : Nat} {Q : aQ} {x0 x1 x2 s0 : Int} (k : Q (some (vI s0)) h n) : Rn d (bc) (bs) mX2_joined 85 [some (vI x0), some (vI x1), some (vI x2)] [vI s0] h n Q := by
  exact Rn_ireturn rfl dX2_joined_85 k
theorem BX2_joined_86 {d bc bs : Nat} {h : aH} {n : Nat} {Q : aQ} {x0 x1 x2 : Int} (b1 : -9223372036854775808 ≤ x1 * x2 ∧ x1 * x2 < 9223372036854775808) (k : Rn d 0 0 mX2_limited 0 [some (vL (x1 * x2)), none] [] h n (fun v h1 n1 => Rn (d + 1) bc bs mX2_joined 94 [some (vI x0), some (vI x1), some (vI x2)] (v.toList ++ []) h1 n1 Q)) : Rn (d + 1) (bc) (bs) mX2_joined 86 [some (vI x0), some (vI x1), some (vI x2)] [] h n Q := by
  refine Rn_iload_n dX2_joined_86 rfl rfl ?_
  refine Rn_i2l dX2_joined_87 ?_
  refine Rn_iload_n dX2_joined_88 rfl rfl ?_
  refine Rn_i2l dX2_joined_89 ?_
  refine Rn_lmul dX2_joined_90 ?_
  rw [w64_id b1.1 b1.2]
  exact Rn_callS (avs := [vL (x1 * x2)]) (st := []) (bc1 := 0) (bs1 := 0) (bc2 := bc) (bs2 := bs) fx_X2_limited dX2_joined_91 (Or.inl wd_925) wd_926 rfl (Nat.le_of_ble_eq_true rfl) (Nat.le_of_ble_eq_true rfl) (by omega) (by omega) (ls1 := [some (vL (x1 * x2)), none]) rfl k
theorem BX2_joined_94 {d bc bs : Nat} {h : aH} {n : Nat} {Q : aQ} {x0 x1 x2 s0 : Int} (k : Q (some (vI s0)) h n) : Rn d (bc) (bs) mX2_joined 94 [some (vI x0), some (vI x1), some (vI x2)] [vI s0] h n Q := by
  exact Rn_ireturn rfl dX2_joined_94 k
theorem BX2_joined_95 {d bc bs : Nat} {h : aH} {n : Nat} {Q : aQ} {x0 x1 x2 : Int} (kt : x2 ≠ 0 → Rn d bc bs mX2_joined 103 [some (vI x0), some (vI x1), some (vI x2)] [] h n Q) (kf : x2 = 0 → Rn d bc bs mX2_joined 99 [some (vI x0), some (vI x1), some (vI x2)] [] h n Q) : Rn d (bc) (bs) mX2_joined 95 [some (vI x0), some (vI x1), some (vI x2)] [] h n Q := by
  refine Rn_iload_n dX2_joined_95 rfl rfl ?_
  refine Rn_ifne (tgt := 103) dX2_joined_96 rfl ?_ ?_
  · exact kt
  · exact kf
theorem BX2_joined_99 {d bc bs : Nat} {h : aH} {n : Nat} {Q : aQ} {x0 x1 x2 : Int} (k : Q (some (vI 0)) h n) : Rn d (bc) (bs) mX2_joined 99 [some (vI x0), some (vI x1), some (vI x2)] [] h n Q := by
  refine Rn_iconst dX2_joined_99 rfl ?_
  refine Rn_goto (tgt := 111) dX2_joined_100 rfl ?_
  exact Rn_ireturn rfl dX2_joined_111 k
theorem BX2_joined_103 {d bc bs : Nat} {h : aH} {n : Nat} {Q : aQ} {x0 x1 x2 : Int} (e1 : ¬ x2 = 0) (b2 : -9223372036854775808 ≤ Int.tdiv x1 x2 ∧ Int.tdiv x1 x2 < 9223372036854775808) (k : Rn d 0 0 mX2_limited 0 [some (vL (Int.tdiv x1 x2)), none] [] h n (fun v h1 n1 => Rn (d + 1) bc bs mX2_joined 111 [some (vI x0), some (vI x1), some (vI x2)] (v.toList ++ []) h1 n1 Q)) : Rn (d + 1) (bc) (bs) mX2_joined 103 [some (vI x0), some (vI x1), some (vI x2)] [] h n Q := by
  refine Rn_iload_n dX2_joined_103 rfl rfl ?_
  refine Rn_i2l dX2_joined_104 ?_
  refine Rn_iload_n dX2_joined_105 rfl rfl ?_
  refine Rn_i2l dX2_joined_106 ?_
  refine Rn_ldiv dX2_joined_107 e1 ?_
  rw [w64_id b2.1 b2.2]
  exact Rn_callS (avs := [vL (Int.tdiv x1 x2)]) (st := []) (bc1 := 0) (bs1 := 0) (bc2 := bc) (bs2 := bs) fx_X2_limited dX2_joined_108 (Or.inl wd_925) wd_926 rfl (Nat.le_of_ble_eq_true rfl) (Nat.le_of_ble_eq_true rfl) (by omega) (by omega) (ls1 := [some (vL (Int.tdiv x1 x2)), none]) rfl k
theorem BX2_joined_111 {d bc bs : Nat} {h : aH} {n : Nat} {Q : aQ} {x0 x1 x2 s0 : Int} (k : Q (some (vI s0)) h n) : Rn d (bc) (bs) mX2_joined 111 [some (vI x0), some (vI x1), some (vI x2)] [vI s0] h n Q := by
  exact Rn_ireturn rfl dX2_joined_111 k
theorem BX2_joined_112 {d bc bs : Nat} {h : aH} {n : Nat} {Q : aQ} {x0 x1 x2 : Int} (b1 : -9223372036854775808 ≤ x1 - x2 ∧ x1 - x2 < 9223372036854775808) (k : Rn d 0 0 mJ9_max_f86c9 0 [some (vL 0), none, some (vL (x1 - x2)), none] [] h n (fun v h1 n1 => Rn (d + 1) bc bs mX2_joined 121 [some (vI x0), some (vI x1), some (vI x2)] (v.toList ++ []) h1 n1 Q)) : Rn (d + 1) (bc) (bs) mX2_joined 112 [some (vI x0), some (vI x1), some (vI x2)] [] h n Q := by
  refine Rn_lconst (x := 0) dX2_joined_112 rfl ?_
  refine Rn_iload_n dX2_joined_113 rfl rfl ?_
  refine Rn_i2l dX2_joined_114 ?_
  refine Rn_iload_n dX2_joined_115 rfl rfl ?_
  refine Rn_i2l dX2_joined_116 ?_
  refine Rn_lsub dX2_joined_117 ?_
  rw [w64_id b1.1 b1.2]
  exact Rn_callS (avs := [vL 0, vL (x1 - x2)]) (st := []) (bc1 := 0) (bs1 := 0) (bc2 := bc) (bs2 := bs) fx_J9_max_f86c9 dX2_joined_118 (Or.inl wd_933) wd_934 rfl (Nat.le_of_ble_eq_true rfl) (Nat.le_of_ble_eq_true rfl) (by omega) (by omega) (ls1 := [some (vL 0), none, some (vL (x1 - x2)), none]) rfl k
theorem BX2_joined_121 {d bc bs : Nat} {h : aH} {n : Nat} {Q : aQ} {x0 x1 x2 s0 : Int} (k : Rn d 0 0 mX2_limited 0 [some (vL s0), none] [] h n (fun v h1 n1 => Rn (d + 1) bc bs mX2_joined 124 [some (vI x0), some (vI x1), some (vI x2)] (v.toList ++ []) h1 n1 Q)) : Rn (d + 1) (bc) (bs) mX2_joined 121 [some (vI x0), some (vI x1), some (vI x2)] [vL s0] h n Q := by
  exact Rn_callS (avs := [vL s0]) (st := []) (bc1 := 0) (bs1 := 0) (bc2 := bc) (bs2 := bs) fx_X2_limited dX2_joined_121 (Or.inl wd_925) wd_926 rfl (Nat.le_of_ble_eq_true rfl) (Nat.le_of_ble_eq_true rfl) (by omega) (by omega) (ls1 := [some (vL s0), none]) rfl k
theorem BX2_joined_124 {d bc bs : Nat} {h : aH} {n : Nat} {Q : aQ} {x0 x1 x2 s0 : Int} (k : Q (some (vI s0)) h n) : Rn d (bc) (bs) mX2_joined 124 [some (vI x0), some (vI x1), some (vI x2)] [vI s0] h n Q := by
  exact Rn_ireturn rfl dX2_joined_124 k
theorem BX2_joined_125 {d bc bs : Nat} {h : aH} {n : Nat} {Q : aQ} {x0 x1 x2 : Int} (k : Q (some (vI (and32 x1 x2))) h n) : Rn d (bc) (bs) mX2_joined 125 [some (vI x0), some (vI x1), some (vI x2)] [] h n Q := by
  refine Rn_iload_n dX2_joined_125 rfl rfl ?_
  refine Rn_iload_n dX2_joined_126 rfl rfl ?_
  refine Rn_iand dX2_joined_127 ?_
  exact Rn_ireturn rfl dX2_joined_128 k
theorem BX2_joined_129 {d bc bs : Nat} {h : aH} {n : Nat} {Q : aQ} {x0 x1 x2 : Int} (k : Q (some (vI (or32 x1 x2))) h n) : Rn d (bc) (bs) mX2_joined 129 [some (vI x0), some (vI x1), some (vI x2)] [] h n Q := by
  refine Rn_iload_n dX2_joined_129 rfl rfl ?_
  refine Rn_iload_n dX2_joined_130 rfl rfl ?_
  refine Rn_ior dX2_joined_131 ?_
  exact Rn_ireturn rfl dX2_joined_132 k
theorem BX2_joined_133 {d bc bs : Nat} {h : aH} {n : Nat} {Q : aQ} {x0 x1 x2 : Int} (k : Rn d 0 0 mX2_compares 0 [some (vI x0), some (vI x1), some (vI x2)] [] h n (fun v h1 n1 => Rn (d + 1) bc bs mX2_joined 139 [some (vI x0), some (vI x1), some (vI x2)] (v.toList ++ []) h1 n1 Q)) : Rn (d + 1) (bc) (bs) mX2_joined 133 [some (vI x0), some (vI x1), some (vI x2)] [] h n Q := by
  refine Rn_iload_n dX2_joined_133 rfl rfl ?_
  refine Rn_iload_n dX2_joined_134 rfl rfl ?_
  refine Rn_iload_n dX2_joined_135 rfl rfl ?_
  exact Rn_callS (avs := [vI x0, vI x1, vI x2]) (st := []) (bc1 := 0) (bs1 := 0) (bc2 := bc) (bs2 := bs) fx_X2_compares dX2_joined_136 (Or.inl wd_936) wd_937 rfl (Nat.le_of_ble_eq_true rfl) (Nat.le_of_ble_eq_true rfl) (by omega) (by omega) (ls1 := [some (vI x0), some (vI x1), some (vI x2)]) rfl k
theorem BX2_joined_139 {d bc bs : Nat} {h : aH} {n : Nat} {Q : aQ} {x0 x1 x2 s0 : Int} (kt : s0 = 0 → Rn d bc bs mX2_joined 146 [some (vI x0), some (vI x1), some (vI x2)] [] h n Q) (kf : s0 ≠ 0 → Rn d bc bs mX2_joined 142 [some (vI x0), some (vI x1), some (vI x2)] [] h n Q) : Rn d (bc) (bs) mX2_joined 139 [some (vI x0), some (vI x1), some (vI x2)] [vI s0] h n Q := by
  refine Rn_ifeq (tgt := 146) dX2_joined_139 rfl ?_ ?_
  · exact kt
  · exact kf
theorem BX2_joined_142 {d bc bs : Nat} {h : aH} {n : Nat} {Q : aQ} {x0 x1 x2 : Int} (k : Q (some (vI 1)) h n) : Rn d (bc) (bs) mX2_joined 142 [some (vI x0), some (vI x1), some (vI x2)] [] h n Q := by
  refine Rn_iconst dX2_joined_142 rfl ?_
  refine Rn_goto (tgt := 147) dX2_joined_143 rfl ?_
  exact Rn_ireturn rfl dX2_joined_147 k
theorem BX2_joined_146 {d bc bs : Nat} {h : aH} {n : Nat} {Q : aQ} {x0 x1 x2 : Int} (k : Q (some (vI 0)) h n) : Rn d (bc) (bs) mX2_joined 146 [some (vI x0), some (vI x1), some (vI x2)] [] h n Q := by
  refine Rn_iconst dX2_joined_146 rfl ?_
  exact Rn_ireturn rfl dX2_joined_147 k
theorem dX2_limited_0 : decode cX2_limited 0 = .ok (.ldc2_w 113, 3) := by decide +kernel
theorem dX2_limited_3 : decode cX2_limited 3 = .ok (.ldc2_w 115, 3) := by decide +kernel
theorem dX2_limited_6 : decode cX2_limited 6 = .ok (.lload_n 0, 1) := by decide +kernel
theorem dX2_limited_7 : decode cX2_limited 7 = .ok (.invokestatic 117, 3) := by decide +kernel
theorem dX2_limited_10 : decode cX2_limited 10 = .ok (.invokestatic 106, 3) := by decide +kernel
theorem dX2_limited_13 : decode cX2_limited 13 = .ok (.l2i, 1) := by decide +kernel
theorem dX2_limited_14 : decode cX2_limited 14 = .ok (.ireturn, 1) := by decide +kernel
theorem BX2_limited_0 {d bc bs : Nat} {h : aH} {n : Nat} {Q : aQ} {x0 : Int} (k : Rn d 0 0 mJ9_min_f86c9 0 [some (vL 1000000), none, some (vL x0), none] [] h n (fun v h1 n1 => Rn (d + 1) bc bs mX2_limited 10 [some (vL x0), none] (v.toList ++ [vL (-1000000)]) h1 n1 Q)) : Rn (d + 1) (bc) (bs) mX2_limited 0 [some (vL x0), none] [] h n Q := by
  refine Rn_ldc2 (x := (-1000000)) dX2_limited_0 wd_928 rfl ?_
  refine Rn_ldc2 (x := 1000000) dX2_limited_3 wd_929 rfl ?_
  refine Rn_lload_n dX2_limited_6 rfl rfl ?_
  exact Rn_callS (avs := [vL 1000000, vL x0]) (st := [vL (-1000000)]) (bc1 := 0) (bs1 := 0) (bc2 := bc) (bs2 := bs) fx_J9_min_f86c9 dX2_limited_7 (Or.inl wd_930) wd_931 rfl (Nat.le_of_ble_eq_true rfl) (Nat.le_of_ble_eq_true rfl) (by omega) (by omega) (ls1 := [some (vL 1000000), none, some (vL x0), none]) rfl k
theorem BX2_limited_10 {d bc bs : Nat} {h : aH} {n : Nat} {Q : aQ} {x0 s0 s1 : Int} (k : Rn d 0 0 mJ9_max_f86c9 0 [some (vL s0), none, some (vL s1), none] [] h n (fun v h1 n1 => Rn (d + 1) bc bs mX2_limited 13 [some (vL x0), none] (v.toList ++ []) h1 n1 Q)) : Rn (d + 1) (bc) (bs) mX2_limited 10 [some (vL x0), none] [vL s1, vL s0] h n Q := by
  exact Rn_callS (avs := [vL s0, vL s1]) (st := []) (bc1 := 0) (bs1 := 0) (bc2 := bc) (bs2 := bs) fx_J9_max_f86c9 dX2_limited_10 (Or.inl wd_933) wd_934 rfl (Nat.le_of_ble_eq_true rfl) (Nat.le_of_ble_eq_true rfl) (by omega) (by omega) (ls1 := [some (vL s0), none, some (vL s1), none]) rfl k
theorem BX2_limited_13 {d bc bs : Nat} {h : aH} {n : Nat} {Q : aQ} {x0 s0 : Int} (b1 : -2147483648 ≤ s0 ∧ s0 < 2147483648) (k : Q (some (vI s0)) h n) : Rn d (bc) (bs) mX2_limited 13 [some (vL x0), none] [vL s0] h n Q := by
  refine Rn_l2i dX2_limited_13 ?_
  rw [w32_id b1.1 b1.2]
  exact Rn_ireturn rfl dX2_limited_14 k
theorem dX2_compares_0 : decode cX2_compares 0 = .ok (.iload_n 0, 1) := by decide +kernel
theorem dX2_compares_1 : decode cX2_compares 1 = .ok (.tableswitch 90 3 7 #[35, 46, 57, 68, 79], 35) := by decide +kernel
theorem dX2_compares_36 : decode cX2_compares 36 = .ok (.iload_n 1, 1) := by decide +kernel
theorem dX2_compares_37 : decode cX2_compares 37 = .ok (.iload_n 2, 1) := by decide +kernel
theorem dX2_compares_38 : decode cX2_compares 38 = .ok (.if_icmp .gt 7, 3) := by decide +kernel
theorem dX2_compares_41 : decode cX2_compares 41 = .ok (.iconst 1, 1) := by decide +kernel
theorem dX2_compares_42 : decode cX2_compares 42 = .ok (.goto 4, 3) := by decide +kernel
theorem dX2_compares_45 : decode cX2_compares 45 = .ok (.iconst 0, 1) := by decide +kernel
theorem dX2_compares_46 : decode cX2_compares 46 = .ok (.ireturn, 1) := by decide +kernel
theorem dX2_compares_47 : decode cX2_compares 47 = .ok (.iload_n 1, 1) := by decide +kernel
theorem dX2_compares_48 : decode cX2_compares 48 = .ok (.iload_n 2, 1) := by decide +kernel
theorem dX2_compares_49 : decode cX2_compares 49 = .ok (.if_icmp .lt 7, 3) := by decide +kernel
theorem dX2_compares_52 : decode cX2_compares 52 = .ok (.iconst 1, 1) := by decide +kernel
theorem dX2_compares_53 : decode cX2_compares 53 = .ok (.goto 4, 3) := by decide +kernel
theorem dX2_compares_56 : decode cX2_compares 56 = .ok (.iconst 0, 1) := by decide +kernel
theorem dX2_compares_57 : decode cX2_compares 57 = .ok (.ireturn, 1) := by decide +kernel
theorem dX2_compares_58 : decode cX2_compares 58 = .ok (.iload_n 1, 1) := by decide +kernel
theorem dX2_compares_59 : decode cX2_compares 59 = .ok (.iload_n 2, 1) := by decide +kernel
theorem dX2_compares_60 : decode cX2_compares 60 = .ok (.if_icmp .ge 7, 3) := by decide +kernel
theorem dX2_compares_63 : decode cX2_compares 63 = .ok (.iconst 1, 1) := by decide +kernel
theorem dX2_compares_64 : decode cX2_compares 64 = .ok (.goto 4, 3) := by decide +kernel
theorem dX2_compares_67 : decode cX2_compares 67 = .ok (.iconst 0, 1) := by decide +kernel
theorem dX2_compares_68 : decode cX2_compares 68 = .ok (.ireturn, 1) := by decide +kernel
theorem dX2_compares_69 : decode cX2_compares 69 = .ok (.iload_n 1, 1) := by decide +kernel
theorem dX2_compares_70 : decode cX2_compares 70 = .ok (.iload_n 2, 1) := by decide +kernel
theorem dX2_compares_71 : decode cX2_compares 71 = .ok (.if_icmp .le 7, 3) := by decide +kernel
theorem dX2_compares_74 : decode cX2_compares 74 = .ok (.iconst 1, 1) := by decide +kernel
theorem dX2_compares_75 : decode cX2_compares 75 = .ok (.goto 4, 3) := by decide +kernel
theorem dX2_compares_78 : decode cX2_compares 78 = .ok (.iconst 0, 1) := by decide +kernel
theorem dX2_compares_79 : decode cX2_compares 79 = .ok (.ireturn, 1) := by decide +kernel
theorem dX2_compares_80 : decode cX2_compares 80 = .ok (.iload_n 1, 1) := by decide +kernel
theorem dX2_compares_81 : decode cX2_compares 81 = .ok (.iload_n 2, 1) := by decide +kernel
theorem dX2_compares_82 : decode cX2_compares 82 = .ok (.if_icmp .ne 7, 3) := by decide +kernel
theorem dX2_compares_85 : decode cX2_compares 85 = .ok (.iconst 1, 1) := by decide +kernel
theorem dX2_compares_86 : decode cX2_compares 86 = .ok (.goto 4, 3) := by decide +kernel
theorem dX2_compares_89 : decode cX2_compares 89 = .ok (.iconst 0, 1) := by decide +kernel
theorem dX2_compares_90 : decode cX2_compares 90 = .ok (.ireturn, 1) := by decide +kernel
theorem dX2_compares_91 : decode cX2_compares 91 = .ok (.iload_n 1, 1) := by decide +kernel
theorem dX2_compares_92 : decode cX2_compares 92 = .ok (.iload_n 2, 1) := by decide +kernel
theorem dX2_compares_93 : decode cX2_compares 93 = .ok (.if_icmp .eq 7, 3) := by decide +kernel
theorem dX2_compares_96 : decode cX2_compares 96 = .ok (.iconst 1, 1) := by decide +kernel
theorem dX2_compares_97 : decode cX2_compares 97 = .ok (.goto 4, 3) := by decide +kernel
theorem dX2_compares_100 : decode cX2_compares 100 = .ok (.iconst 0, 1) := by decide +kernel
theorem dX2_compares_101 : decode cX2_compares 101 = .ok (.ireturn, 1) := by decide +kernel
theorem BX2_compares_0 {d bc bs : Nat} {h : aH} {n : Nat} {Q : aQ} {x0 x1 x2 : Int} (kd : (x0 < 3 ∨ 7 < x0) → Rn d bc bs mX2_compares 91 [some (vI x0), some (vI x1), some (vI x2)] [] h n Q) (k3 : x0 = 3 → Rn d bc bs mX2_compares 36 [some (vI x0), some (vI x1), some (vI x2)] [] h n Q) (k4 : x0 = 4 → Rn d bc bs mX2_compares 47 [some (vI x0), some (vI x1), some (vI x2)] [] h n Q) (k5 : x0 = 5 → Rn d bc bs mX2_compares 58 [some (vI x0), some (vI x1), some (vI x2)] [] h n Q) (k6 : x0 = 6 → Rn d bc bs mX2_compares 69 [some (vI x0), some (vI x1), some (vI x2)] [] h n Q) (k7 : x0 = 7 → Rn d bc bs mX2_compares 80 [some (vI x0), some (vI x1), some (vI x2)] [] h n Q) : Rn d (bc) (bs) mX2_compares 0 [some (vI x0), some (vI x1), some (vI x2)] [] h n Q := by
  refine Rn_iload_n dX2_compares_0 rfl rfl ?_
  by_cases hq : x0 < 3 ∨ 7 < x0
  · exact Rn_tableOut (tgt := 91) dX2_compares_1 hq rfl (kd hq)
  rcases (show x0 = 3 ∨ x0 = 4 ∨ x0 = 5 ∨ x0 = 6 ∨ x0 = 7 by omega) with hz | hz | hz | hz | hz
  · exact Rn_tableIn (tgt := 36) dX2_compares_1 (by omega) (by omega) (by rw [hz] <;> rfl) rfl (k3 hz)
  · exact Rn_tableIn (tgt := 47) dX2_compares_1 (by omega) (by omega) (by rw [hz] <;> rfl) rfl (k4 hz)
  · exact Rn_tableIn (tgt := 58) dX2_compares_1 (by omega) (by omega) (by rw [hz] <;> rfl) rfl (k5 hz)
  · exact Rn_tableIn (tgt := 69) dX2_compares_1 (by omega) (by omega) (by rw [hz] <;> rfl) rfl (k6 hz)
  · exact Rn_tableIn (tgt := 80) dX2_compares_1 (by omega) (by omega) (by rw [hz] <;> rfl) rfl (k7 hz)
theorem BX2_compares_36 {d bc bs : Nat} {h : aH} {n : Nat} {Q : aQ} {x0 x1 x2 : Int} (kt : x2 < x1 → Rn d bc bs mX2_compares 45 [some (vI x0), some (vI x1), some (vI x2)] [] h n Q) (kf : x1 ≤ x2 → Rn d bc bs mX2_compares 41 [some (vI x0), some (vI x1), some (vI x2)] [] h n Q) : Rn d (bc) (bs) mX2_compares 36 [some (vI x0), some (vI x1), some (vI x2)] [] h n Q := by
  refine Rn_iload_n dX2_compares_36 rfl rfl ?_
  refine Rn_iload_n dX2_compares_37 rfl rfl ?_
  refine Rn_icmpgt (tgt := 45) dX2_compares_38 rfl ?_ ?_
  · exact kt
  · exact kf
theorem BX2_compares_41 {d bc bs : Nat} {h : aH} {n : Nat} {Q : aQ} {x0 x1 x2 : Int} (k : Q (some (vI 1)) h n) : Rn d (bc) (bs) mX2_compares 41 [some (vI x0), some (vI x1), some (vI x2)] [] h n Q := by
  refine Rn_iconst dX2_compares_41 rfl ?_
  refine Rn_goto (tgt := 46) dX2_compares_42 rfl ?_
  exact Rn_zreturn rfl dX2_compares_46 (by decide) k
theorem BX2_compares_45 {d bc bs : Nat} {h : aH} {n : Nat} {Q : aQ} {x0 x1 x2 : Int} (k : Q (some (vI 0)) h n) : Rn d (bc) (bs) mX2_compares 45 [some (vI x0), some (vI x1), some (vI x2)] [] h n Q := by
  refine Rn_iconst dX2_compares_45 rfl ?_
  exact Rn_zreturn rfl dX2_compares_46 (by decide) k
theorem BX2_compares_47 {d bc bs : Nat} {h : aH} {n : Nat} {Q : aQ} {x0 x1 x2 : Int} (kt : x1 < x2 → Rn d bc bs mX2_compares 56 [some (vI x0), some (vI x1), some (vI x2)] [] h n Q) (kf : x2 ≤ x1 → Rn d bc bs mX2_compares 52 [some (vI x0), some (vI x1), some (vI x2)] [] h n Q) : Rn d (bc) (bs) mX2_compares 47 [some (vI x0), some (vI x1), some (vI x2)] [] h n Q := by
  refine Rn_iload_n dX2_compares_47 rfl rfl ?_
  refine Rn_iload_n dX2_compares_48 rfl rfl ?_
  refine Rn_icmplt (tgt := 56) dX2_compares_49 rfl ?_ ?_
  · exact kt
  · exact kf
theorem BX2_compares_52 {d bc bs : Nat} {h : aH} {n : Nat} {Q : aQ} {x0 x1 x2 : Int} (k : Q (some (vI 1)) h n) : Rn d (bc) (bs) mX2_compares 52 [some (vI x0), some (vI x1), some (vI x2)] [] h n Q := by
  refine Rn_iconst dX2_compares_52 rfl ?_
  refine Rn_goto (tgt := 57) dX2_compares_53 rfl ?_
  exact Rn_zreturn rfl dX2_compares_57 (by decide) k
theorem BX2_compares_56 {d bc bs : Nat} {h : aH} {n : Nat} {Q : aQ} {x0 x1 x2 : Int} (k : Q (some (vI 0)) h n) : Rn d (bc) (bs) mX2_compares 56 [some (vI x0), some (vI x1), some (vI x2)] [] h n Q := by
  refine Rn_iconst dX2_compares_56 rfl ?_
  exact Rn_zreturn rfl dX2_compares_57 (by decide) k
theorem BX2_compares_58 {d bc bs : Nat} {h : aH} {n : Nat} {Q : aQ} {x0 x1 x2 : Int} (kt : x2 ≤ x1 → Rn d bc bs mX2_compares 67 [some (vI x0), some (vI x1), some (vI x2)] [] h n Q) (kf : x1 < x2 → Rn d bc bs mX2_compares 63 [some (vI x0), some (vI x1), some (vI x2)] [] h n Q) : Rn d (bc) (bs) mX2_compares 58 [some (vI x0), some (vI x1), some (vI x2)] [] h n Q := by
  refine Rn_iload_n dX2_compares_58 rfl rfl ?_
  refine Rn_iload_n dX2_compares_59 rfl rfl ?_
  refine Rn_icmpge (tgt := 67) dX2_compares_60 rfl ?_ ?_
  · exact kt
  · exact kf
theorem BX2_compares_63 {d bc bs : Nat} {h : aH} {n : Nat} {Q : aQ} {x0 x1 x2 : Int} (k : Q (some (vI 1)) h n) : Rn d (bc) (bs) mX2_compares 63 [some (vI x0), some (vI x1), some (vI x2)] [] h n Q := by
  refine Rn_iconst dX2_compares_63 rfl ?_
  refine Rn_goto (tgt := 68) dX2_compares_64 rfl ?_
  exact Rn_zreturn rfl dX2_compares_68 (by decide) k
theorem BX2_compares_67 {d bc bs : Nat} {h : aH} {n : Nat} {Q : aQ} {x0 x1 x2 : Int} (k : Q (some (vI 0)) h n) : Rn d (bc) (bs) mX2_compares 67 [some (vI x0), some (vI x1), some (vI x2)] [] h n Q := by
  refine Rn_iconst dX2_compares_67 rfl ?_
  exact Rn_zreturn rfl dX2_compares_68 (by decide) k
theorem BX2_compares_69 {d bc bs : Nat} {h : aH} {n : Nat} {Q : aQ} {x0 x1 x2 : Int} (kt : x1 ≤ x2 → Rn d bc bs mX2_compares 78 [some (vI x0), some (vI x1), some (vI x2)] [] h n Q) (kf : x2 < x1 → Rn d bc bs mX2_compares 74 [some (vI x0), some (vI x1), some (vI x2)] [] h n Q) : Rn d (bc) (bs) mX2_compares 69 [some (vI x0), some (vI x1), some (vI x2)] [] h n Q := by
  refine Rn_iload_n dX2_compares_69 rfl rfl ?_
  refine Rn_iload_n dX2_compares_70 rfl rfl ?_
  refine Rn_icmple (tgt := 78) dX2_compares_71 rfl ?_ ?_
  · exact kt
  · exact kf
theorem BX2_compares_74 {d bc bs : Nat} {h : aH} {n : Nat} {Q : aQ} {x0 x1 x2 : Int} (k : Q (some (vI 1)) h n) : Rn d (bc) (bs) mX2_compares 74 [some (vI x0), some (vI x1), some (vI x2)] [] h n Q := by
  refine Rn_iconst dX2_compares_74 rfl ?_
  refine Rn_goto (tgt := 79) dX2_compares_75 rfl ?_
  exact Rn_zreturn rfl dX2_compares_79 (by decide) k
theorem BX2_compares_78 {d bc bs : Nat} {h : aH} {n : Nat} {Q : aQ} {x0 x1 x2 : Int} (k : Q (some (vI 0)) h n) : Rn d (bc) (bs) mX2_compares 78 [some (vI x0), some (vI x1), some (vI x2)] [] h n Q := by
  refine Rn_iconst dX2_compares_78 rfl ?_
  exact Rn_zreturn rfl dX2_compares_79 (by decide) k
theorem BX2_compares_80 {d bc bs : Nat} {h : aH} {n : Nat} {Q : aQ} {x0 x1 x2 : Int} (kt : x1 ≠ x2 → Rn d bc bs mX2_compares 89 [some (vI x0), some (vI x1), some (vI x2)] [] h n Q) (kf : x1 = x2 → Rn d bc bs mX2_compares 85 [some (vI x0), some (vI x1), some (vI x2)] [] h n Q) : Rn d (bc) (bs) mX2_compares 80 [some (vI x0), some (vI x1), some (vI x2)] [] h n Q := by
  refine Rn_iload_n dX2_compares_80 rfl rfl ?_
  refine Rn_iload_n dX2_compares_81 rfl rfl ?_
  refine Rn_icmpne (tgt := 89) dX2_compares_82 rfl ?_ ?_
  · exact kt
  · exact kf
theorem BX2_compares_85 {d bc bs : Nat} {h : aH} {n : Nat} {Q : aQ} {x0 x1 x2 : Int} (k : Q (some (vI 1)) h n) : Rn d (bc) (bs) mX2_compares 85 [some (vI x0), some (vI x1), some (vI x2)] [] h n Q := by
  refine Rn_iconst dX2_compares_85 rfl ?_
  refine Rn_goto (tgt := 90) dX2_compares_86 rfl ?_
  exact Rn_zreturn rfl dX2_compares_90 (by decide) k
theorem BX2_compares_89 {d bc bs : Nat} {h : aH} {n : Nat} {Q : aQ} {x0 x1 x2 : Int} (k : Q (some (vI 0)) h n) : Rn d (bc) (bs) mX2_compares 89 [some (vI x0), some (vI x1), some (vI x2)] [] h n Q := by
  refine Rn_iconst dX2_compares_89 rfl ?_
  exact Rn_zreturn rfl dX2_compares_90 (by decide) k
theorem BX2_compares_91 {d bc bs : Nat} {h : aH} {n : Nat} {Q : aQ} {x0 x1 x2 : Int} (kt : x1 = x2 → Rn d bc bs mX2_compares 100 [some (vI x0), some (vI x1), some (vI x2)] [] h n Q) (kf : x1 ≠ x2 → Rn d bc bs mX2_compares 96 [some (vI x0), some (vI x1), some (vI x2)] [] h n Q) : Rn d (bc) (bs) mX2_compares 91 [some (vI x0), some (vI x1), some (vI x2)] [] h n Q := by
  refine Rn_iload_n dX2_compares_91 rfl rfl ?_
  refine Rn_iload_n dX2_compares_92 rfl rfl ?_
  refine Rn_icmpeq (tgt := 100) dX2_compares_93 rfl ?_ ?_
  · exact kt
  · exact kf
theorem BX2_compares_96 {d bc bs : Nat} {h : aH} {n : Nat} {Q : aQ} {x0 x1 x2 : Int} (k : Q (some (vI 1)) h n) : Rn d (bc) (bs) mX2_compares 96 [some (vI x0), some (vI x1), some (vI x2)] [] h n Q := by
  refine Rn_iconst dX2_compares_96 rfl ?_
  refine Rn_goto (tgt := 101) dX2_compares_97 rfl ?_
  exact Rn_zreturn rfl dX2_compares_101 (by decide) k
theorem BX2_compares_100 {d bc bs : Nat} {h : aH} {n : Nat} {Q : aQ} {x0 x1 x2 : Int} (k : Q (some (vI 0)) h n) : Rn d (bc) (bs) mX2_compares 100 [some (vI x0), some (vI x1), some (vI x2)] [] h n Q := by
  refine Rn_iconst dX2_compares_100 rfl ?_
  exact Rn_zreturn rfl dX2_compares_101 (by decide) k
theorem dX4_init_0 : decode cX4_init 0 = .ok (.aload_n 0, 1) := by decide +kernel
theorem dX4_init_1 : decode cX4_init 1 = .ok (.invokespecial 3, 3) := by decide +kernel
theorem dX4_init_4 : decode cX4_init 4 = .ok (.aload_n 0, 1) := by decide +kernel
theorem dX4_init_5 : decode cX4_init 5 = .ok (.iconst 0, 1) := by decide +kernel
theorem dX4_init_6 : decode cX4_init 6 = .ok (.putfield 9, 3) := by decide +kernel
theorem dX4_init_9 : decode cX4_init 9 = .ok (.aload_n 0, 1) := by decide +kernel
theorem dX4_init_10 : decode cX4_init 10 = .ok (.iconst 4, 1) := by decide +kernel
theorem dX4_init_11 : decode cX4_init 11 = .ok (.newarray .int, 2) := by decide +kernel
theorem dX4_init_13 : decode cX4_init 13 = .ok (.putfield 15, 3) := by decide +kernel
theorem dX4_init_16 : decode cX4_init 16 = .ok (.aload_n 0, 1) := by decide +kernel
theorem dX4_init_17 : decode cX4_init 17 = .ok (.iconst 4, 1) := by decide +kernel
theorem dX4_init_18 : decode cX4_init 18 = .ok (.newarray .int, 2) := by decide +kernel
theorem dX4_init_20 : decode cX4_init 20 = .ok (.putfield 19, 3) := by decide +kernel
theorem dX4_init_23 : decode cX4_init 23 = .ok (.aload_n 0, 1) := by decide +kernel
theorem dX4_init_24 : decode cX4_init 24 = .ok (.iconst 0, 1) := by decide +kernel
theorem dX4_init_25 : decode cX4_init 25 = .ok (.putfield 22, 3) := by decide +kernel
theorem dX4_init_28 : decode cX4_init 28 = .ok (.aload_n 0, 1) := by decide +kernel
theorem dX4_init_29 : decode cX4_init 29 = .ok (.iconst (-1), 1) := by decide +kernel
theorem dX4_init_30 : decode cX4_init 30 = .ok (.putfield 25, 3) := by decide +kernel
theorem dX4_init_33 : decode cX4_init 33 = .ok (.aload_n 0, 1) := by decide +kernel
theorem dX4_init_34 : decode cX4_init 34 = .ok (.iconst 0, 1) := by decide +kernel
theorem dX4_init_35 : decode cX4_init 35 = .ok (.putfield 28, 3) := by decide +kernel
theorem dX4_init_38 : decode cX4_init 38 = .ok (.aload_n 0, 1) := by decide +kernel
theorem dX4_init_39 : decode cX4_init 39 = .ok (.iconst 0, 1) := by decide +kernel
theorem dX4_init_40 : decode cX4_init 40 = .ok (.putfield 31, 3) := by decide +kernel
theorem dX4_init_43 : decode cX4_init 43 = .ok (.return_, 1) := by decide +kernel
theorem BX4_init_0 {d bc bs : Nat} {h : aH} {n : Nat} {Q : aQ} {ar0 : Nat} {f1 : List aV} (h2 : h ar0 = cO 4 f1) (m3 : 0 < f1.length) (k : Rn (d + 1) bc bs mX4_init 9 [some (vR (some ar0))] [] (up h ar0 (cO 4 (f1.set 0 (vI 0)))) n Q) : Rn (d + 1) (bc) (bs) mX4_init 0 [some (vR (some ar0))] [] h n Q := by
  refine Rn_aload_n dX4_init_0 rfl rfl rfl ?_
  refine Rn_objInit dX4_init_1 wd_406 wd_149 wd_150 (Nat.le_of_ble_eq_true rfl) ?_
  refine Rn_aload_n dX4_init_4 rfl rfl rfl ?_
  refine Rn_iconst dX4_init_5 rfl ?_
  refine Rn_putfield (ci := 4) (k := 0) dX4_init_6 rfl in_4 tyX4_ok nmX4 (Nat.le_of_ble_eq_true rfl) wd_407 rfl (Or.inl rfl) trivial m3 h2 ?_
  exact k
theorem BX4_init_9 {d bc bs : Nat} {h : aH} {n : Nat} {Q : aQ} {r0 : Option Nat} (k : Rn d bc bs mX4_init 13 [some (vR r0)] [vR (some n), vR r0] (up h n (cI (List.replicate 4 0))) (n + 1) Q) : Rn d (bc + 1) (bs + 4) mX4_init 9 [some (vR r0)] [] h n Q := by
  refine Rn_aload_n dX4_init_9 rfl rfl rfl ?_
  refine Rn_iconst dX4_init_10 rfl ?_
  refine Rn_newarrI (N := 4) (bc := bc) (bs := bs) (by omega) (by omega) wd_181 dX4_init_11 (by decide) ?_
  exact k
theorem BX4_init_13 {d bc bs : Nat} {h : aH} {n : Nat} {Q : aQ} {r0 q1 : Option Nat} {aq0 : Nat} {f1 : List aV} (h2 : h aq0 = cO 4 f1) (m3 : 1 < f1.length) (k : Rn d bc bs mX4_init 16 [some (vR r0)] [] (up h aq0 (cO 4 (f1.set 1 (vR q1)))) n Q) : Rn d (bc) (bs) mX4_init 13 [some (vR r0)] [vR q1, vR (some aq0)] h n Q := by
  refine Rn_putfield (ci := 4) (k := 1) dX4_init_13 rfl in_4 tyX4_ok nmX4 (Nat.le_of_ble_eq_true rfl) wd_409 rfl (Or.inr ⟨rfl, rfl⟩) trivial m3 h2 ?_
  exact k
theorem BX4_init_16 {d bc bs : Nat} {h : aH} {n : Nat} {Q : aQ} {r0 : Option Nat} (k : Rn d bc bs mX4_init 20 [some (vR r0)] [vR (some n), vR r0] (up h n (cI (List.replicate 4 0))) (n + 1) Q) : Rn d (bc + 1) (bs + 4) mX4_init 16 [some (vR r0)] [] h n Q := by
  refine Rn_aload_n dX4_init_16 rfl rfl rfl ?_
  refine Rn_iconst dX4_init_17 rfl ?_
  refine Rn_newarrI (N := 4) (bc := bc) (bs := bs) (by omega) (by omega) wd_181 dX4_init_18 (by decide) ?_
  exact k
theorem BX4_init_20 {d bc bs : Nat} {h : aH} {n : Nat} {Q : aQ} {r0 q1 : Option Nat} {aq0 : Nat} {f1 : List aV} (h2 : h aq0 = cO 4 f1) (m3 : 2 < f1.length) (k : Rn d bc bs mX4_init 23 [some (vR r0)] [] (up h aq0 (cO 4 (f1.set 2 (vR q1)))) n Q) : Rn d (bc) (bs) mX4_init 20 [some (vR r0)] [vR q1, vR (some aq0)] h n Q := by
  refine Rn_putfield (ci := 4) (k := 2) dX4_init_20 rfl in_4 tyX4_ok nmX4 (Nat.le_of_ble_eq_true rfl) wd_410 rfl (Or.inr ⟨rfl, rfl⟩) trivial m3 h2 ?_
  exact k
theorem BX4_init_23 {d bc bs : Nat} {h : aH} {n : Nat} {Q : aQ} {ar0 : Nat} {f1 : List aV} (h2 : h ar0 = cO 4 f1) (m3 : 3 < f1.length) (k : Rn d bc bs mX4_init 28 [some (vR (some ar0))] [] (up h ar0 (cO 4 (f1.set 3 (vI 0)))) n Q) : Rn d (bc) (bs) mX4_init 23 [some (vR (some ar0))] [] h n Q := by
  refine Rn_aload_n dX4_init_23 rfl rfl rfl ?_
  refine Rn_iconst dX4_init_24 rfl ?_
  refine Rn_putfield (ci := 4) (k := 3) dX4_init_25 rfl in_4 tyX4_ok nmX4 (Nat.le_of_ble_eq_true rfl) wd_411 rfl (Or.inl rfl) trivial m3 h2 ?_
  exact k
theorem BX4_init_28 {d bc bs : Nat} {h : aH} {n : Nat} {Q : aQ} {ar0 : Nat} {f1 : List aV} (h2 : h ar0 = cO 4 f1) (m3 : 4 < f1.length) (k : Rn d bc bs mX4_init 33 [some (vR (some ar0))] [] (up h ar0 (cO 4 (f1.set 4 (vI (-1))))) n Q) : Rn d (bc) (bs) mX4_init 28 [some (vR (some ar0))] [] h n Q := by
  refine Rn_aload_n dX4_init_28 rfl rfl rfl ?_
  refine Rn_iconst dX4_init_29 rfl ?_
  refine Rn_putfield (ci := 4) (k := 4) dX4_init_30 rfl in_4 tyX4_ok nmX4 (Nat.le_of_ble_eq_true rfl) wd_413 rfl (Or.inl rfl) trivial m3 h2 ?_
  exact k
theorem BX4_init_33 {d bc bs : Nat} {h : aH} {n : Nat} {Q : aQ} {ar0 : Nat} {f1 : List aV} (h2 : h ar0 = cO 4 f1) (m3 : 5 < f1.length) (k : Rn d bc bs mX4_init 38 [some (vR (some ar0))] [] (up h ar0 (cO 4 (f1.set 5 (vI 0)))) n Q) : Rn d (bc) (bs) mX4_init 33 [some (vR (some ar0))] [] h n Q := by
  refine Rn_aload_n dX4_init_33 rfl rfl rfl ?_
  refine Rn_iconst dX4_init_34 rfl ?_
  refine Rn_putfield (ci := 4) (k := 5) dX4_init_35 rfl in_4 tyX4_ok nmX4 (Nat.le_of_ble_eq_true rfl) wd_414 rfl (Or.inl rfl) trivial m3 h2 ?_
  exact k
theorem BX4_init_38 {d bc bs : Nat} {h : aH} {n : Nat} {Q : aQ} {ar0 : Nat} {f1 : List aV} (h2 : h ar0 = cO 4 f1) (m3 : 6 < f1.length) (k : Rn d bc bs mX4_init 43 [some (vR (some ar0))] [] (up h ar0 (cO 4 (f1.set 6 (vI 0)))) n Q) : Rn d (bc) (bs) mX4_init 38 [some (vR (some ar0))] [] h n Q := by
  refine Rn_aload_n dX4_init_38 rfl rfl rfl ?_
  refine Rn_iconst dX4_init_39 rfl ?_
  refine Rn_putfield (ci := 4) (k := 6) dX4_init_40 rfl in_4 tyX4_ok nmX4 (Nat.le_of_ble_eq_true rfl) wd_415 rfl (Or.inl rfl) trivial m3 h2 ?_
  exact k
theorem BX4_init_43 {d bc bs : Nat} {h : aH} {n : Nat} {Q : aQ} {r0 : Option Nat} (k : Q none h n) : Rn d (bc) (bs) mX4_init 43 [some (vR r0)] [] h n Q := by
  exact Rn_return rfl dX4_init_43 k
theorem dX4_meet_0 : decode cX4_meet 0 = .ok (.iconst (-1), 1) := by decide +kernel
theorem dX4_meet_1 : decode cX4_meet 1 = .ok (.istore 6, 2) := by decide +kernel
theorem dX4_meet_3 : decode cX4_meet 3 = .ok (.iconst 0, 1) := by decide +kernel
theorem dX4_meet_4 : decode cX4_meet 4 = .ok (.istore 7, 2) := by decide +kernel
theorem dX4_meet_6 : decode cX4_meet 6 = .ok (.iload 7, 2) := by decide +kernel
theorem dX4_meet_8 : decode cX4_meet 8 = .ok (.bipush 9, 2) := by decide +kernel
theorem dX4_meet_10 : decode cX4_meet 10 = .ok (.if_icmp .gt 104, 3) := by decide +kernel
theorem dX4_meet_13 : decode cX4_meet 13 = .ok (.aload_n 1, 1) := by decide +kernel
theorem dX4_meet_14 : decode cX4_meet 14 = .ok (.iload_n 2, 1) := by decide +kernel
theorem dX4_meet_15 : decode cX4_meet 15 = .ok (.invokevirtual 34, 3) := by decide +kernel
theorem dX4_meet_18 : decode cX4_meet 18 = .ok (.istore 8, 2) := by decide +kernel
theorem dX4_meet_20 : decode cX4_meet 20 = .ok (.iload 5, 2) := by decide +kernel
theorem dX4_meet_22 : decode cX4_meet 22 = .ok (.iload 6, 2) := by decide +kernel
theorem dX4_meet_24 : decode cX4_meet 24 = .ok (.iconst (-1), 1) := by decide +kernel
theorem dX4_meet_25 : decode cX4_meet 25 = .ok (.if_icmp .ne 8, 3) := by decide +kernel
theorem dX4_meet_28 : decode cX4_meet 28 = .ok (.bipush 61, 2) := by decide +kernel
theorem dX4_meet_30 : decode cX4_meet 30 = .ok (.goto 5, 3) := by decide +kernel
theorem dX4_meet_33 : decode cX4_meet 33 = .ok (.iload 6, 2) := by decide +kernel
theorem dX4_meet_35 : decode cX4_meet 35 = .ok (.iload 7, 2) := by decide +kernel
theorem dX4_meet_37 : decode cX4_meet 37 = .ok (.isub, 1) := by decide +kernel
theorem dX4_meet_38 : decode cX4_meet 38 = .ok (.iconst 1, 1) := by decide +kernel
theorem dX4_meet_39 : decode cX4_meet 39 = .ok (.isub, 1) := by decide +kernel
theorem dX4_meet_40 : decode cX4_meet 40 = .ok (.invokestatic 40, 3) := by decide +kernel
theorem dX4_meet_43 : decode cX4_meet 43 = .ok (.istore 9, 2) := by decide +kernel
theorem dX4_meet_45 : decode cX4_meet 45 = .ok (.iconst 1, 1) := by decide +kernel
theorem dX4_meet_46 : decode cX4_meet 46 = .ok (.istore 10, 2) := by decide +kernel
theorem dX4_meet_48 : decode cX4_meet 48 = .ok (.iload 10, 2) := by decide +kernel
theorem dX4_meet_50 : decode cX4_meet 50 = .ok (.iload 9, 2) := by decide +kernel
theorem dX4_meet_52 : decode cX4_meet 52 = .ok (.if_icmp .gt 56, 3) := by decide +kernel
theorem dX4_meet_55 : decode cX4_meet 55 = .ok (.aload_n 1, 1) := by decide +kernel
theorem dX4_meet_56 : decode cX4_meet 56 = .ok (.iload 4, 2) := by decide +kernel
theorem dX4_meet_58 : decode cX4_meet 58 = .ok (.iload 7, 2) := by decide +kernel
theorem dX4_meet_60 : decode cX4_meet 60 = .ok (.iadd, 1) := by decide +kernel
theorem dX4_meet_61 : decode cX4_meet 61 = .ok (.iload 10, 2) := by decide +kernel
theorem dX4_meet_63 : decode cX4_meet 63 = .ok (.iadd, 1) := by decide +kernel
theorem dX4_meet_64 : decode cX4_meet 64 = .ok (.iconst 1, 1) := by decide +kernel
theorem dX4_meet_65 : decode cX4_meet 65 = .ok (.isub, 1) := by decide +kernel
theorem dX4_meet_66 : decode cX4_meet 66 = .ok (.iload 8, 2) := by decide +kernel
theorem dX4_meet_68 : decode cX4_meet 68 = .ok (.invokevirtual 46, 3) := by decide +kernel
theorem dX4_meet_71 : decode cX4_meet 71 = .ok (.istore 8, 2) := by decide +kernel
theorem dX4_meet_73 : decode cX4_meet 73 = .ok (.iload 8, 2) := by decide +kernel
theorem dX4_meet_75 : decode cX4_meet 75 = .ok (.aload_n 1, 1) := by decide +kernel
theorem dX4_meet_76 : decode cX4_meet 76 = .ok (.iload_n 3, 1) := by decide +kernel
theorem dX4_meet_77 : decode cX4_meet 77 = .ok (.invokevirtual 34, 3) := by decide +kernel
theorem dX4_meet_80 : decode cX4_meet 80 = .ok (.if_icmp .eq 6, 3) := by decide +kernel
theorem dX4_meet_83 : decode cX4_meet 83 = .ok (.goto 19, 3) := by decide +kernel
theorem dX4_meet_86 : decode cX4_meet 86 = .ok (.iload 7, 2) := by decide +kernel
theorem dX4_meet_88 : decode cX4_meet 88 = .ok (.iload 10, 2) := by decide +kernel
theorem dX4_meet_90 : decode cX4_meet 90 = .ok (.iadd, 1) := by decide +kernel
theorem dX4_meet_91 : decode cX4_meet 91 = .ok (.istore 6, 2) := by decide +kernel
theorem dX4_meet_93 : decode cX4_meet 93 = .ok (.aload_n 0, 1) := by decide +kernel
theorem dX4_meet_94 : decode cX4_meet 94 = .ok (.iload 7, 2) := by decide +kernel
theorem dX4_meet_96 : decode cX4_meet 96 = .ok (.putfield 9, 3) := by decide +kernel
theorem dX4_meet_99 : decode cX4_meet 99 = .ok (.goto 9, 3) := by decide +kernel
theorem dX4_meet_102 : decode cX4_meet 102 = .ok (.iinc 10 1, 3) := by decide +kernel
theorem dX4_meet_105 : decode cX4_meet 105 = .ok (.goto (-57), 3) := by decide +kernel
theorem dX4_meet_108 : decode cX4_meet 108 = .ok (.iinc 7 1, 3) := by decide +kernel
theorem dX4_meet_111 : decode cX4_meet 111 = .ok (.goto (-105), 3) := by decide +kernel
theorem dX4_meet_114 : decode cX4_meet 114 = .ok (.iload 6, 2) := by decide +kernel
theorem dX4_meet_116 : decode cX4_meet 116 = .ok (.ireturn, 1) := by decide +kernel
theorem BX4_meet_0 {d bc bs : Nat} {h : aH} {n : Nat} {Q : aQ} {r0 r1 : Option Nat} {x2 x3 x4 x5 : Int} {l6 l7 l8 l9 l10 : Option aV} (k : Rn d bc bs mX4_meet 6 [some (vR r0), some (vR r1), some (vI x2), some (vI x3), some (vI x4), some (vI x5), some (vI (-1)), some (vI 0), l8, l9, l10] [] h n Q) : Rn d (bc) (bs) mX4_meet 0 [some (vR r0), some (vR r1), some (vI x2), some (vI x3), some (vI x4), some (vI x5), l6, l7, l8, l9, l10] [] h n Q := by
  refine Rn_iconst dX4_meet_0 rfl ?_
  refine Rn_istore dX4_meet_1 (Nat.le_of_ble_eq_true rfl) rfl rfl ?_
  refine Rn_iconst dX4_meet_3 rfl ?_
  refine Rn_istore dX4_meet_4 (Nat.le_of_ble_eq_true rfl) rfl rfl ?_
  exact k
theorem BX4_meet_6 {d bc bs : Nat} {h : aH} {n : Nat} {Q : aQ} {r0 r1 : Option Nat} {x2 x3 x4 x5 x6 x7 : Int} {l8 l9 l10 : Option aV} (kt : 9 < x7 → Rn d bc bs mX4_meet 114 [some (vR r0), some (vR r1), some (vI x2), some (vI x3), some (vI x4), some (vI x5), some (vI x6), some (vI x7), l8, l9, l10] [] h n Q) (kf : x7 ≤ 9 → Rn d bc bs mX4_meet 13 [some (vR r0), some (vR r1), some (vI x2), some (vI x3), some (vI x4), some (vI x5), some (vI x6), some (vI x7), l8, l9, l10] [] h n Q) : Rn d (bc) (bs) mX4_meet 6 [some (vR r0), some (vR r1), some (vI x2), some (vI x3), some (vI x4), some (vI x5), some (vI x6), some (vI x7), l8, l9, l10] [] h n Q := by
  refine Rn_iload dX4_meet_6 rfl ?_
  refine Rn_bipush dX4_meet_8 rfl ?_
  refine Rn_icmpgt (tgt := 114) dX4_meet_10 rfl ?_ ?_
  · exact kt
  · exact kf
theorem BX4_meet_13 {d bc bs : Nat} {h : aH} {n : Nat} {Q : aQ} {r0 : Option Nat} {ar1 : Nat} {x2 x3 x4 x5 x6 x7 : Int} {l8 l9 l10 : Option aV} {f1 : List aV} (h2 : h ar1 = cO 7 f1) (k : Rn d 0 0 mX7_placeOf 0 [some (vR (some ar1)), some (vI x2)] [] h n (fun v h1 n1 => Rn (d + 1) bc bs mX4_meet 18 [some (vR r0), some (vR (some ar1)), some (vI x2), some (vI x3), some (vI x4), some (vI x5), some (vI x6), some (vI x7), l8, l9, l10] (v.toList ++ []) h1 n1 Q)) : Rn (d + 1) (bc) (bs) mX4_meet 13 [some (vR r0), some (vR (some ar1)), some (vI x2), some (vI x3), some (vI x4), some (vI x5), some (vI x6), some (vI x7), l8, l9, l10] [] h n Q := by
  refine Rn_aload_n dX4_meet_13 rfl rfl rfl ?_
  refine Rn_iload_n dX4_meet_14 rfl rfl ?_
  exact Rn_callV (ci := 7) (avs := [vI x2]) (st := []) (bc1 := 0) (bs1 := 0) (bc2 := bc) (bs2 := bs) fx_X7_placeOf dX4_meet_15 wd_1085 wd_812 wd_813 rfl h2 rfl (Nat.le_of_ble_eq_true rfl) (Nat.le_of_ble_eq_true rfl) (by omega) (by omega) (ls1 := [some (vR (some ar1)), some (vI x2)]) rfl k
theorem BX4_meet_18 {d bc bs : Nat} {h : aH} {n : Nat} {Q : aQ} {r0 r1 : Option Nat} {x2 x3 x4 x5 x6 x7 s0 : Int} {l8 l9 l10 : Option aV} (kt : x6 ≠ (-1) → Rn d bc bs mX4_meet 33 [some (vR r0), some (vR r1), some (vI x2), some (vI x3), some (vI x4), some (vI x5), some (vI x6), some (vI x7), some (vI s0), l9, l10] [vI x5] h n Q) (kf : x6 = (-1) → Rn d bc bs mX4_meet 28 [some (vR r0), some (vR r1), some (vI x2), some (vI x3), some (vI x4), some (vI x5), some (vI x6), some (vI x7), some (vI s0), l9, l10] [vI x5] h n Q) : Rn d (bc) (bs) mX4_meet 18 [some (vR r0), some (vR r1), some (vI x2), some (vI x3), some (vI x4), some (vI x5), some (vI x6), some (vI x7), l8, l9, l10] [vI s0] h n Q := by
  refine Rn_istore dX4_meet_18 (Nat.le_of_ble_eq_true rfl) rfl rfl ?_
  refine Rn_iload dX4_meet_20 rfl ?_
  refine Rn_iload dX4_meet_22 rfl ?_
  refine Rn_iconst dX4_meet_24 rfl ?_
  refine Rn_icmpne (tgt := 33) dX4_meet_25 rfl ?_ ?_
  · exact kt
  · exact kf
theorem BX4_meet_28 {d bc bs : Nat} {h : aH} {n : Nat} {Q : aQ} {r0 r1 : Option Nat} {x2 x3 x4 x5 x6 x7 x8 s0 : Int} {l9 l10 : Option aV} (b1 : -2147483648 ≤ 61 - x7 ∧ 61 - x7 < 2147483648) (b2 : -2147483648 ≤ (61 - x7) - 1 ∧ (61 - x7) - 1 < 2147483648) (k : Rn d 0 0 mJ9_min_7cf53 0 [some (vI s0), some (vI ((61 - x7) - 1))] [] h n (fun v h1 n1 => Rn (d + 1) bc bs mX4_meet 43 [some (vR r0), some (vR r1), some (vI x2), some (vI x3), some (vI x4), some (vI x5), some (vI x6), some (vI x7), some (vI x8), l9, l10] (v.toList ++ []) h1 n1 Q)) : Rn (d + 1) (bc) (bs) mX4_meet 28 [some (vR r0), some (vR r1), some (vI x2), some (vI x3), some (vI x4), some (vI x5), some (vI x6), some (vI x7), some (vI x8), l9, l10] [vI s0] h n Q := by
  refine Rn_bipush dX4_meet_28 rfl ?_
  refine Rn_goto (tgt := 35) dX4_meet_30 rfl ?_
  refine Rn_iload dX4_meet_35 rfl ?_
  refine Rn_isub dX4_meet_37 ?_
  rw [w32_id b1.1 b1.2]
  refine Rn_iconst dX4_meet_38 rfl ?_
  refine Rn_isub dX4_meet_39 ?_
  rw [w32_id b2.1 b2.2]
  exact Rn_callS (avs := [vI s0, vI ((61 - x7) - 1)]) (st := []) (bc1 := 0) (bs1 := 0) (bc2 := bc) (bs2 := bs) fx_J9_min_7cf53 dX4_meet_40 (Or.inl wd_1086) wd_559 rfl (Nat.le_of_ble_eq_true rfl) (Nat.le_of_ble_eq_true rfl) (by omega) (by omega) (ls1 := [some (vI s0), some (vI ((61 - x7) - 1))]) rfl k
theorem BX4_meet_33 {d bc bs : Nat} {h : aH} {n : Nat} {Q : aQ} {r0 r1 : Option Nat} {x2 x3 x4 x5 x6 x7 x8 s0 : Int} {l9 l10 : Option aV} (b1 : -2147483648 ≤ x6 - x7 ∧ x6 - x7 < 2147483648) (b2 : -2147483648 ≤ (x6 - x7) - 1 ∧ (x6 - x7) - 1 < 2147483648) (k : Rn d 0 0 mJ9_min_7cf53 0 [some (vI s0), some (vI ((x6 - x7) - 1))] [] h n (fun v h1 n1 => Rn (d + 1) bc bs mX4_meet 43 [some (vR r0), some (vR r1), some (vI x2), some (vI x3), some (vI x4), some (vI x5), some (vI x6), some (vI x7), some (vI x8), l9, l10] (v.toList ++ []) h1 n1 Q)) : Rn (d + 1) (bc) (bs) mX4_meet 33 [some (vR r0), some (vR r1), some (vI x2), some (vI x3), some (vI x4), some (vI x5), some (vI x6), some (vI x7), some (vI x8), l9, l10] [vI s0] h n Q := by
  refine Rn_iload dX4_meet_33 rfl ?_
  refine Rn_iload dX4_meet_35 rfl ?_
  refine Rn_isub dX4_meet_37 ?_
  rw [w32_id b1.1 b1.2]
  refine Rn_iconst dX4_meet_38 rfl ?_
  refine Rn_isub dX4_meet_39 ?_
  rw [w32_id b2.1 b2.2]
  exact Rn_callS (avs := [vI s0, vI ((x6 - x7) - 1)]) (st := []) (bc1 := 0) (bs1 := 0) (bc2 := bc) (bs2 := bs) fx_J9_min_7cf53 dX4_meet_40 (Or.inl wd_1086) wd_559 rfl (Nat.le_of_ble_eq_true rfl) (Nat.le_of_ble_eq_true rfl) (by omega) (by omega) (ls1 := [some (vI s0), some (vI ((x6 - x7) - 1))]) rfl k
theorem BX4_meet_43 {d bc bs : Nat} {h : aH} {n : Nat} {Q : aQ} {r0 r1 : Option Nat} {x2 x3 x4 x5 x6 x7 x8 s0 : Int} {l9 l10 : Option aV} (k : Rn d bc bs mX4_meet 48 [some (vR r0), some (vR r1), some (vI x2), some (vI x3), some (vI x4), some (vI x5), some (vI x6), some (vI x7), some (vI x8), some (vI s0), some (vI 1)] [] h n Q) : Rn d (bc) (bs) mX4_meet 43 [some (vR r0), some (vR r1), some (vI x2), some (vI x3), some (vI x4), some (vI x5), some (vI x6), some (vI x7), some (vI x8), l9, l10] [vI s0] h n Q := by
  refine Rn_istore dX4_meet_43 (Nat.le_of_ble_eq_true rfl) rfl rfl ?_
  refine Rn_iconst dX4_meet_45 rfl ?_
  refine Rn_istore dX4_meet_46 (Nat.le_of_ble_eq_true rfl) rfl rfl ?_
  exact k
theorem BX4_meet_48 {d bc bs : Nat} {h : aH} {n : Nat} {Q : aQ} {r0 r1 : Option Nat} {x2 x3 x4 x5 x6 x7 x8 x9 x10 : Int} (kt : x9 < x10 → Rn d bc bs mX4_meet 108 [some (vR r0), some (vR r1), some (vI x2), some (vI x3), some (vI x4), some (vI x5), some (vI x6), some (vI x7), some (vI x8), some (vI x9), some (vI x10)] [] h n Q) (kf : x10 ≤ x9 → Rn d bc bs mX4_meet 55 [some (vR r0), some (vR r1), some (vI x2), some (vI x3), some (vI x4), some (vI x5), some (vI x6), some (vI x7), some (vI x8), some (vI x9), some (vI x10)] [] h n Q) : Rn d (bc) (bs) mX4_meet 48 [some (vR r0), some (vR r1), some (vI x2), some (vI x3), some (vI x4), some (vI x5), some (vI x6), some (vI x7), some (vI x8), some (vI x9), some (vI x10)] [] h n Q := by
  refine Rn_iload dX4_meet_48 rfl ?_
  refine Rn_iload dX4_meet_50 rfl ?_
  refine Rn_icmpgt (tgt := 108) dX4_meet_52 rfl ?_ ?_
  · exact kt
  · exact kf
theorem BX4_meet_55 {d bc bs : Nat} {h : aH} {n : Nat} {Q : aQ} {r0 : Option Nat} {ar1 : Nat} {x2 x3 x4 x5 x6 x7 x8 x9 x10 : Int} {f4 : List aV} (b1 : -2147483648 ≤ x4 + x7 ∧ x4 + x7 < 2147483648) (b2 : -2147483648 ≤ (x4 + x7) + x10 ∧ (x4 + x7) + x10 < 2147483648) (b3 : -2147483648 ≤ ((x4 + x7) + x10) - 1 ∧ ((x4 + x7) + x10) - 1 < 2147483648) (h5 : h ar1 = cO 7 f4) (k : Rn d 0 0 mX7_leadsTo 0 [some (vR (some ar1)), some (vI (((x4 + x7) + x10) - 1)), some (vI x8), none] [] h n (fun v h1 n1 => Rn (d + 1) bc bs mX4_meet 71 [some (vR r0), some (vR (some ar1)), some (vI x2), some (vI x3), some (vI x4), some (vI x5), some (vI x6), some (vI x7), some (vI x8), some (vI x9), some (vI x10)] (v.toList ++ []) h1 n1 Q)) : Rn (d + 1) (bc) (bs) mX4_meet 55 [some (vR r0), some (vR (some ar1)), some (vI x2), some (vI x3), some (vI x4), some (vI x5), some (vI x6), some (vI x7), some (vI x8), some (vI x9), some (vI x10)] [] h n Q := by
  refine Rn_aload_n dX4_meet_55 rfl rfl rfl ?_
  refine Rn_iload dX4_meet_56 rfl ?_
  refine Rn_iload dX4_meet_58 rfl ?_
  refine Rn_iadd dX4_meet_60 ?_
  rw [w32_id b1.1 b1.2]
  refine Rn_iload dX4_meet_61 rfl ?_
  refine Rn_iadd dX4_meet_63 ?_
  rw [w32_id b2.1 b2.2]
  refine Rn_iconst dX4_meet_64 rfl ?_
  refine Rn_isub dX4_meet_65 ?_
  rw [w32_id b3.1 b3.2]
  refine Rn_iload dX4_meet_66 rfl ?_
  exact Rn_callV (ci := 7) (avs := [vI (((x4 + x7) + x10) - 1), vI x8]) (st := []) (bc1 := 0) (bs1 := 0) (bc2 := bc) (bs2 := bs) fx_X7_leadsTo dX4_meet_68 wd_1087 wd_885 wd_886 rfl h5 rfl (Nat.le_of_ble_eq_true rfl) (Nat.le_of_ble_eq_true rfl) (by omega) (by omega) (ls1 := [some (vR (some ar1)), some (vI (((x4 + x7) + x10) - 1)), some (vI x8), none]) rfl k
theorem BX4_meet_71 {d bc bs : Nat} {h : aH} {n : Nat} {Q : aQ} {r0 : Option Nat} {ar1 : Nat} {x2 x3 x4 x5 x6 x7 x8 x9 x10 s0 : Int} {f1 : List aV} (h2 : h ar1 = cO 7 f1) (k : Rn d 0 0 mX7_placeOf 0 [some (vR (some ar1)), some (vI x3)] [] h n (fun v h1 n1 => Rn (d + 1) bc bs mX4_meet 80 [some (vR r0), some (vR (some ar1)), some (vI x2), some (vI x3), some (vI x4), some (vI x5), some (vI x6), some (vI x7), some (vI s0), some (vI x9), some (vI x10)] (v.toList ++ [vI s0]) h1 n1 Q)) : Rn (d + 1) (bc) (bs) mX4_meet 71 [some (vR r0), some (vR (some ar1)), some (vI x2), some (vI x3), some (vI x4), some (vI x5), some (vI x6), some (vI x7), some (vI x8), some (vI x9), some (vI x10)] [vI s0] h n Q := by
  refine Rn_istore dX4_meet_71 (Nat.le_of_ble_eq_true rfl) rfl rfl ?_
  refine Rn_iload dX4_meet_73 rfl ?_
  refine Rn_aload_n dX4_meet_75 rfl rfl rfl ?_
  refine Rn_iload_n dX4_meet_76 rfl rfl ?_
  exact Rn_callV (ci := 7) (avs := [vI x3]) (st := [vI s0]) (bc1 := 0) (bs1 := 0) (bc2 := bc) (bs2 := bs) fx_X7_placeOf dX4_meet_77 wd_1085 wd_812 wd_813 rfl h2 rfl (Nat.le_of_ble_eq_true rfl) (Nat.le_of_ble_eq_true rfl) (by omega) (by omega) (ls1 := [some (vR (some ar1)), some (vI x3)]) rfl k
theorem BX4_meet_80 {d bc bs : Nat} {h : aH} {n : Nat} {Q : aQ} {r0 r1 : Option Nat} {x2 x3 x4 x5 x6 x7 x8 x9 x10 s0 s1 : Int} (kt : s0 = s1 → Rn d bc bs mX4_meet 86 [some (vR r0), some (vR r1), some (vI x2), some (vI x3), some (vI x4), some (vI x5), some (vI x6), some (vI x7), some (vI x8), some (vI x9), some (vI x10)] [] h n Q) (kf : s0 ≠ s1 → Rn d bc bs mX4_meet 83 [some (vR r0), some (vR r1), some (vI x2), some (vI x3), some (vI x4), some (vI x5), some (vI x6), some (vI x7), some (vI x8), some (vI x9), some (vI x10)] [] h n Q) : Rn d (bc) (bs) mX4_meet 80 [some (vR r0), some (vR r1), some (vI x2), some (vI x3), some (vI x4), some (vI x5), some (vI x6), some (vI x7), some (vI x8), some (vI x9), some (vI x10)] [vI s1, vI s0] h n Q := by
  refine Rn_icmpeq (tgt := 86) dX4_meet_80 rfl ?_ ?_
  · exact kt
  · exact kf
theorem BX4_meet_83 {d bc bs : Nat} {h : aH} {n : Nat} {Q : aQ} {r0 r1 : Option Nat} {x2 x3 x4 x5 x6 x7 x8 x9 x10 : Int} (b1 : -2147483648 ≤ x10 + 1 ∧ x10 + 1 < 2147483648) (k : Rn d bc bs mX4_meet 48 [some (vR r0), some (vR r1), some (vI x2), some (vI x3), some (vI x4), some (vI x5), some (vI x6), some (vI x7), some (vI x8), some (vI x9), some (vI (x10 + 1))] [] h n Q) : Rn d (bc) (bs) mX4_meet 83 [some (vR r0), some (vR r1), some (vI x2), some (vI x3), some (vI x4), some (vI x5), some (vI x6), some (vI x7), some (vI x8), some (vI x9), some (vI x10)] [] h n Q := by
  refine Rn_goto (tgt := 102) dX4_meet_83 rfl ?_
  refine Rn_iinc dX4_meet_102 rfl (Nat.le_of_ble_eq_true rfl) rfl rfl rfl ?_
  rw [w32_id b1.1 b1.2]
  refine Rn_goto (tgt := 48) dX4_meet_105 rfl ?_
  exact k
theorem BX4_meet_86 {d bc bs : Nat} {h : aH} {n : Nat} {Q : aQ} {ar0 : Nat} {r1 : Option Nat} {x2 x3 x4 x5 x6 x7 x8 x9 x10 : Int} {f2 : List aV} (b1 : -2147483648 ≤ x7 + x10 ∧ x7 + x10 < 2147483648) (h3 : h ar0 = cO 4 f2) (m4 : 0 < f2.length) (k : Rn d bc bs mX4_meet 99 [some (vR (some ar0)), some (vR r1), some (vI x2), some (vI x3), some (vI x4), some (vI x5), some (vI (x7 + x10)), some (vI x7), some (vI x8), some (vI x9), some (vI x10)] [] (up h ar0 (cO 4 (f2.set 0 (vI x7)))) n Q) : Rn d (bc) (bs) mX4_meet 86 [some (vR (some ar0)), some (vR r1), some (vI x2), some (vI x3), some (vI x4), some (vI x5), some (vI x6), some (vI x7), some (vI x8), some (vI x9), some (vI x10)] [] h n Q := by
  refine Rn_iload dX4_meet_86 rfl ?_
  refine Rn_iload dX4_meet_88 rfl ?_
  refine Rn_iadd dX4_meet_90 ?_
  rw [w32_id b1.1 b1.2]
  refine Rn_istore dX4_meet_91 (Nat.le_of_ble_eq_true rfl) rfl rfl ?_
  refine Rn_aload_n dX4_meet_93 rfl rfl rfl ?_
  refine Rn_iload dX4_meet_94 rfl ?_
  refine Rn_putfield (ci := 4) (k := 0) dX4_meet_96 rfl in_4 tyX4_ok nmX4 (Nat.le_of_ble_eq_true rfl) wd_407 rfl (Or.inl rfl) trivial m4 h3 ?_
  exact k
theorem BX4_meet_99 {d bc bs : Nat} {h : aH} {n : Nat} {Q : aQ} {r0 r1 : Option Nat} {x2 x3 x4 x5 x6 x7 x8 x9 x10 : Int} (b1 : -2147483648 ≤ x7 + 1 ∧ x7 + 1 < 2147483648) (k : Rn d bc bs mX4_meet 6 [some (vR r0), some (vR r1), some (vI x2), some (vI x3), some (vI x4), some (vI x5), some (vI x6), some (vI (x7 + 1)), some (vI x8), some (vI x9), some (vI x10)] [] h n Q) : Rn d (bc) (bs) mX4_meet 99 [some (vR r0), some (vR r1), some (vI x2), some (vI x3), some (vI x4), some (vI x5), some (vI x6), some (vI x7), some (vI x8), some (vI x9), some (vI x10)] [] h n Q := by
  refine Rn_goto (tgt := 108) dX4_meet_99 rfl ?_
  refine Rn_iinc dX4_meet_108 rfl (Nat.le_of_ble_eq_true rfl) rfl rfl rfl ?_
  rw [w32_id b1.1 b1.2]
  refine Rn_goto (tgt := 6) dX4_meet_111 rfl ?_
  exact k
theorem BX4_meet_108 {d bc bs : Nat} {h : aH} {n : Nat} {Q : aQ} {r0 r1 : Option Nat} {x2 x3 x4 x5 x6 x7 x8 x9 x10 : Int} (b1 : -2147483648 ≤ x7 + 1 ∧ x7 + 1 < 2147483648) (k : Rn d bc bs mX4_meet 6 [some (vR r0), some (vR r1), some (vI x2), some (vI x3), some (vI x4), some (vI x5), some (vI x6), some (vI (x7 + 1)), some (vI x8), some (vI x9), some (vI x10)] [] h n Q) : Rn d (bc) (bs) mX4_meet 108 [some (vR r0), some (vR r1), some (vI x2), some (vI x3), some (vI x4), some (vI x5), some (vI x6), some (vI x7), some (vI x8), some (vI x9), some (vI x10)] [] h n Q := by
  refine Rn_iinc dX4_meet_108 rfl (Nat.le_of_ble_eq_true rfl) rfl rfl rfl ?_
  rw [w32_id b1.1 b1.2]
  refine Rn_goto (tgt := 6) dX4_meet_111 rfl ?_
  exact k
theorem BX4_meet_114 {d bc bs : Nat} {h : aH} {n : Nat} {Q : aQ} {r0 r1 : Option Nat} {x2 x3 x4 x5 x6 x7 : Int} {l8 l9 l10 : Option aV} (k : Q (some (vI x6)) h n) : Rn d (bc) (bs) mX4_meet 114 [some (vR r0), some (vR r1), some (vI x2), some (vI x3), some (vI x4), some (vI x5), some (vI x6), some (vI x7), l8, l9, l10] [] h n Q := by
  refine Rn_iload dX4_meet_114 rfl ?_
  exact Rn_ireturn rfl dX4_meet_116 k
theorem dX4_relayTime_0 : decode cX4_relayTime 0 = .ok (.aload_n 0, 1) := by decide +kernel
theorem dX4_relayTime_1 : decode cX4_relayTime 1 = .ok (.iconst (-1), 1) := by decide +kernel
theorem dX4_relayTime_2 : decode cX4_relayTime 2 = .ok (.putfield 25, 3) := by decide +kernel
theorem dX4_relayTime_5 : decode cX4_relayTime 5 = .ok (.aload_n 0, 1) := by decide +kernel
theorem dX4_relayTime_6 : decode cX4_relayTime 6 = .ok (.iconst 0, 1) := by decide +kernel
theorem dX4_relayTime_7 : decode cX4_relayTime 7 = .ok (.putfield 22, 3) := by decide +kernel
theorem dX4_relayTime_10 : decode cX4_relayTime 10 = .ok (.aload_n 0, 1) := by decide +kernel
theorem dX4_relayTime_11 : decode cX4_relayTime 11 = .ok (.iload_n 3, 1) := by decide +kernel
theorem dX4_relayTime_12 : decode cX4_relayTime 12 = .ok (.putfield 28, 3) := by decide +kernel
theorem dX4_relayTime_15 : decode cX4_relayTime 15 = .ok (.iconst 4, 1) := by decide +kernel
theorem dX4_relayTime_16 : decode cX4_relayTime 16 = .ok (.aload_n 1, 1) := by decide +kernel
theorem dX4_relayTime_17 : decode cX4_relayTime 17 = .ok (.getfield 49, 3) := by decide +kernel
theorem dX4_relayTime_20 : decode cX4_relayTime 20 = .ok (.iconst 2, 1) := by decide +kernel
theorem dX4_relayTime_21 : decode cX4_relayTime 21 = .ok (.isub, 1) := by decide +kernel
theorem dX4_relayTime_22 : decode cX4_relayTime 22 = .ok (.invokestatic 40, 3) := by decide +kernel
theorem dX4_relayTime_25 : decode cX4_relayTime 25 = .ok (.istore 5, 2) := by decide +kernel
theorem dX4_relayTime_27 : decode cX4_relayTime 27 = .ok (.iconst 0, 1) := by decide +kernel
theorem dX4_relayTime_28 : decode cX4_relayTime 28 = .ok (.istore 6, 2) := by decide +kernel
theorem dX4_relayTime_30 : decode cX4_relayTime 30 = .ok (.iload 6, 2) := by decide +kernel
theorem dX4_relayTime_32 : decode cX4_relayTime 32 = .ok (.iload 5, 2) := by decide +kernel
theorem dX4_relayTime_34 : decode cX4_relayTime 34 = .ok (.if_icmp .gt 32, 3) := by decide +kernel
theorem dX4_relayTime_37 : decode cX4_relayTime 37 = .ok (.aload_n 0, 1) := by decide +kernel
theorem dX4_relayTime_38 : decode cX4_relayTime 38 = .ok (.iload 6, 2) := by decide +kernel
theorem dX4_relayTime_40 : decode cX4_relayTime 40 = .ok (.putfield 31, 3) := by decide +kernel
theorem dX4_relayTime_43 : decode cX4_relayTime 43 = .ok (.aload_n 0, 1) := by decide +kernel
theorem dX4_relayTime_44 : decode cX4_relayTime 44 = .ok (.aload_n 1, 1) := by decide +kernel
theorem dX4_relayTime_45 : decode cX4_relayTime 45 = .ok (.iload_n 2, 1) := by decide +kernel
theorem dX4_relayTime_46 : decode cX4_relayTime 46 = .ok (.iload 4, 2) := by decide +kernel
theorem dX4_relayTime_48 : decode cX4_relayTime 48 = .ok (.iconst 0, 1) := by decide +kernel
theorem dX4_relayTime_49 : decode cX4_relayTime 49 = .ok (.iconst 0, 1) := by decide +kernel
theorem dX4_relayTime_50 : decode cX4_relayTime 50 = .ok (.iconst 1, 1) := by decide +kernel
theorem dX4_relayTime_51 : decode cX4_relayTime 51 = .ok (.iload_n 2, 1) := by decide +kernel
theorem dX4_relayTime_52 : decode cX4_relayTime 52 = .ok (.ishl, 1) := by decide +kernel
theorem dX4_relayTime_53 : decode cX4_relayTime 53 = .ok (.iconst 1, 1) := by decide +kernel
theorem dX4_relayTime_54 : decode cX4_relayTime 54 = .ok (.iload_n 3, 1) := by decide +kernel
theorem dX4_relayTime_55 : decode cX4_relayTime 55 = .ok (.ishl, 1) := by decide +kernel
theorem dX4_relayTime_56 : decode cX4_relayTime 56 = .ok (.ior, 1) := by decide +kernel
theorem dX4_relayTime_57 : decode cX4_relayTime 57 = .ok (.invokevirtual 52, 3) := by decide +kernel
theorem dX4_relayTime_60 : decode cX4_relayTime 60 = .ok (.iinc 6 1, 3) := by decide +kernel
theorem dX4_relayTime_63 : decode cX4_relayTime 63 = .ok (.goto (-33), 3) := by decide +kernel
theorem dX4_relayTime_66 : decode cX4_relayTime 66 = .ok (.aload_n 0, 1) := by decide +kernel
theorem dX4_relayTime_67 : decode cX4_relayTime 67 = .ok (.getfield 25, 3) := by decide +kernel
theorem dX4_relayTime_70 : decode cX4_relayTime 70 = .ok (.ireturn, 1) := by decide +kernel
theorem BX4_relayTime_0 {d bc bs : Nat} {h : aH} {n : Nat} {Q : aQ} {ar0 : Nat} {r1 : Option Nat} {x2 x3 x4 : Int} {l5 l6 : Option aV} {f1 : List aV} (h2 : h ar0 = cO 4 f1) (m3 : 4 < f1.length) (k : Rn d bc bs mX4_relayTime 5 [some (vR (some ar0)), some (vR r1), some (vI x2), some (vI x3), some (vI x4), l5, l6] [] (up h ar0 (cO 4 (f1.set 4 (vI (-1))))) n Q) : Rn d (bc) (bs) mX4_relayTime 0 [some (vR (some ar0)), some (vR r1), some (vI x2), some (vI x3), some (vI x4), l5, l6] [] h n Q := by
  refine Rn_aload_n dX4_relayTime_0 rfl rfl rfl ?_
  refine Rn_iconst dX4_relayTime_1 rfl ?_
  refine Rn_putfield (ci := 4) (k := 4) dX4_relayTime_2 rfl in_4 tyX4_ok nmX4 (Nat.le_of_ble_eq_true rfl) wd_413 rfl (Or.inl rfl) trivial m3 h2 ?_
  exact k
theorem BX4_relayTime_5 {d bc bs : Nat} {h : aH} {n : Nat} {Q : aQ} {ar0 : Nat} {r1 : Option Nat} {x2 x3 x4 : Int} {l5 l6 : Option aV} {f1 : List aV} (h2 : h ar0 = cO 4 f1) (m3 : 3 < f1.length) (k : Rn d bc bs mX4_relayTime 10 [some (vR (some ar0)), some (vR r1), some (vI x2), some (vI x3), some (vI x4), l5, l6] [] (up h ar0 (cO 4 (f1.set 3 (vI 0)))) n Q) : Rn d (bc) (bs) mX4_relayTime 5 [some (vR (some ar0)), some (vR r1), some (vI x2), some (vI x3), some (vI x4), l5, l6] [] h n Q := by
  refine Rn_aload_n dX4_relayTime_5 rfl rfl rfl ?_
  refine Rn_iconst dX4_relayTime_6 rfl ?_
  refine Rn_putfield (ci := 4) (k := 3) dX4_relayTime_7 rfl in_4 tyX4_ok nmX4 (Nat.le_of_ble_eq_true rfl) wd_411 rfl (Or.inl rfl) trivial m3 h2 ?_
  exact k
theorem BX4_relayTime_10 {d bc bs : Nat} {h : aH} {n : Nat} {Q : aQ} {ar0 : Nat} {r1 : Option Nat} {x2 x3 x4 : Int} {l5 l6 : Option aV} {f1 : List aV} (h2 : h ar0 = cO 4 f1) (m3 : 5 < f1.length) (k : Rn d bc bs mX4_relayTime 15 [some (vR (some ar0)), some (vR r1), some (vI x2), some (vI x3), some (vI x4), l5, l6] [] (up h ar0 (cO 4 (f1.set 5 (vI x3)))) n Q) : Rn d (bc) (bs) mX4_relayTime 10 [some (vR (some ar0)), some (vR r1), some (vI x2), some (vI x3), some (vI x4), l5, l6] [] h n Q := by
  refine Rn_aload_n dX4_relayTime_10 rfl rfl rfl ?_
  refine Rn_iload_n dX4_relayTime_11 rfl rfl ?_
  refine Rn_putfield (ci := 4) (k := 5) dX4_relayTime_12 rfl in_4 tyX4_ok nmX4 (Nat.le_of_ble_eq_true rfl) wd_414 rfl (Or.inl rfl) trivial m3 h2 ?_
  exact k
theorem BX4_relayTime_15 {d bc bs : Nat} {h : aH} {n : Nat} {Q : aQ} {r0 : Option Nat} {ar1 : Nat} {x2 x3 x4 v3 : Int} {l5 l6 : Option aV} {f1 : List aV} (h2 : h ar1 = cO 7 f1) (g4 : f1[3]? = some (vI v3)) (b5 : -2147483648 ≤ v3 - 2 ∧ v3 - 2 < 2147483648) (k : Rn d 0 0 mJ9_min_7cf53 0 [some (vI 4), some (vI (v3 - 2))] [] h n (fun v h1 n1 => Rn (d + 1) bc bs mX4_relayTime 25 [some (vR r0), some (vR (some ar1)), some (vI x2), some (vI x3), some (vI x4), l5, l6] (v.toList ++ []) h1 n1 Q)) : Rn (d + 1) (bc) (bs) mX4_relayTime 15 [some (vR r0), some (vR (some ar1)), some (vI x2), some (vI x3), some (vI x4), l5, l6] [] h n Q := by
  refine Rn_iconst dX4_relayTime_15 rfl ?_
  refine Rn_aload_n dX4_relayTime_16 rfl rfl rfl ?_
  refine Rn_getfield (ci := 7) (k := 3) dX4_relayTime_17 rfl in_7 (Nat.le_of_ble_eq_true rfl) wd_170 rfl h2 g4 ?_
  refine Rn_iconst dX4_relayTime_20 rfl ?_
  refine Rn_isub dX4_relayTime_21 ?_
  rw [w32_id b5.1 b5.2]
  exact Rn_callS (avs := [vI 4, vI (v3 - 2)]) (st := []) (bc1 := 0) (bs1 := 0) (bc2 := bc) (bs2 := bs) fx_J9_min_7cf53 dX4_relayTime_22 (Or.inl wd_1086) wd_559 rfl (Nat.le_of_ble_eq_true rfl) (Nat.le_of_ble_eq_true rfl) (by omega) (by omega) (ls1 := [some (vI 4), some (vI (v3 - 2))]) rfl k
theorem BX4_relayTime_25 {d bc bs : Nat} {h : aH} {n : Nat} {Q : aQ} {r0 r1 : Option Nat} {x2 x3 x4 s0 : Int} {l5 l6 : Option aV} (k : Rn d bc bs mX4_relayTime 30 [some (vR r0), some (vR r1), some (vI x2), some (vI x3), some (vI x4), some (vI s0), some (vI 0)] [] h n Q) : Rn d (bc) (bs) mX4_relayTime 25 [some (vR r0), some (vR r1), some (vI x2), some (vI x3), some (vI x4), l5, l6] [vI s0] h n Q := by
  refine Rn_istore dX4_relayTime_25 (Nat.le_of_ble_eq_true rfl) rfl rfl ?_
  refine Rn_iconst dX4_relayTime_27 rfl ?_
  refine Rn_istore dX4_relayTime_28 (Nat.le_of_ble_eq_true rfl) rfl rfl ?_
  exact k
theorem BX4_relayTime_30 {d bc bs : Nat} {h : aH} {n : Nat} {Q : aQ} {r0 r1 : Option Nat} {x2 x3 x4 x5 x6 : Int} (kt : x5 < x6 → Rn d bc bs mX4_relayTime 66 [some (vR r0), some (vR r1), some (vI x2), some (vI x3), some (vI x4), some (vI x5), some (vI x6)] [] h n Q) (kf : x6 ≤ x5 → Rn d bc bs mX4_relayTime 37 [some (vR r0), some (vR r1), some (vI x2), some (vI x3), some (vI x4), some (vI x5), some (vI x6)] [] h n Q) : Rn d (bc) (bs) mX4_relayTime 30 [some (vR r0), some (vR r1), some (vI x2), some (vI x3), some (vI x4), some (vI x5), some (vI x6)] [] h n Q := by
  refine Rn_iload dX4_relayTime_30 rfl ?_
  refine Rn_iload dX4_relayTime_32 rfl ?_
  refine Rn_icmpgt (tgt := 66) dX4_relayTime_34 rfl ?_ ?_
  · exact kt
  · exact kf
theorem BX4_relayTime_37 {d bc bs : Nat} {h : aH} {n : Nat} {Q : aQ} {ar0 : Nat} {r1 : Option Nat} {x2 x3 x4 x5 x6 : Int} {f1 : List aV} (h2 : h ar0 = cO 4 f1) (m3 : 6 < f1.length) (k : Rn d bc bs mX4_relayTime 43 [some (vR (some ar0)), some (vR r1), some (vI x2), some (vI x3), some (vI x4), some (vI x5), some (vI x6)] [] (up h ar0 (cO 4 (f1.set 6 (vI x6)))) n Q) : Rn d (bc) (bs) mX4_relayTime 37 [some (vR (some ar0)), some (vR r1), some (vI x2), some (vI x3), some (vI x4), some (vI x5), some (vI x6)] [] h n Q := by
  refine Rn_aload_n dX4_relayTime_37 rfl rfl rfl ?_
  refine Rn_iload dX4_relayTime_38 rfl ?_
  refine Rn_putfield (ci := 4) (k := 6) dX4_relayTime_40 rfl in_4 tyX4_ok nmX4 (Nat.le_of_ble_eq_true rfl) wd_415 rfl (Or.inl rfl) trivial m3 h2 ?_
  exact k
theorem BX4_relayTime_43 {d bc bs : Nat} {h : aH} {n : Nat} {Q : aQ} {ar0 : Nat} {r1 : Option Nat} {x2 x3 x4 x5 x6 : Int} {f1 : List aV} (h2 : h ar0 = cO 4 f1) (k : Rn d 0 0 mX4_goOn 0 [some (vR (some ar0)), some (vR r1), some (vI x2), some (vI x4), some (vI 0), some (vI 0), some (vI (or32 (shl32 1 x2) (shl32 1 x3))), none] [] h n (fun v h1 n1 => Rn (d + 1) bc bs mX4_relayTime 60 [some (vR (some ar0)), some (vR r1), some (vI x2), some (vI x3), some (vI x4), some (vI x5), some (vI x6)] (v.toList ++ []) h1 n1 Q)) : Rn (d + 1) (bc) (bs) mX4_relayTime 43 [some (vR (some ar0)), some (vR r1), some (vI x2), some (vI x3), some (vI x4), some (vI x5), some (vI x6)] [] h n Q := by
  refine Rn_aload_n dX4_relayTime_43 rfl rfl rfl ?_
  refine Rn_aload_n dX4_relayTime_44 rfl rfl rfl ?_
  refine Rn_iload_n dX4_relayTime_45 rfl rfl ?_
  refine Rn_iload dX4_relayTime_46 rfl ?_
  refine Rn_iconst dX4_relayTime_48 rfl ?_
  refine Rn_iconst dX4_relayTime_49 rfl ?_
  refine Rn_iconst dX4_relayTime_50 rfl ?_
  refine Rn_iload_n dX4_relayTime_51 rfl rfl ?_
  refine Rn_ishl dX4_relayTime_52 ?_
  refine Rn_iconst dX4_relayTime_53 rfl ?_
  refine Rn_iload_n dX4_relayTime_54 rfl rfl ?_
  refine Rn_ishl dX4_relayTime_55 ?_
  refine Rn_ior dX4_relayTime_56 ?_
  exact Rn_callV (ci := 4) (avs := [vR r1, vI x2, vI x4, vI 0, vI 0, vI (or32 (shl32 1 x2) (shl32 1 x3))]) (st := []) (bc1 := 0) (bs1 := 0) (bc2 := bc) (bs2 := bs) fx_X4_goOn dX4_relayTime_57 wd_1096 wd_1098 wd_38 rfl h2 rfl (Nat.le_of_ble_eq_true rfl) (Nat.le_of_ble_eq_true rfl) (by omega) (by omega) (ls1 := [some (vR (some ar0)), some (vR r1), some (vI x2), some (vI x4), some (vI 0), some (vI 0), some (vI (or32 (shl32 1 x2) (shl32 1 x3))), none]) rfl k
theorem BX4_relayTime_60 {d bc bs : Nat} {h : aH} {n : Nat} {Q : aQ} {r0 r1 : Option Nat} {x2 x3 x4 x5 x6 : Int} (b1 : -2147483648 ≤ x6 + 1 ∧ x6 + 1 < 2147483648) (k : Rn d bc bs mX4_relayTime 30 [some (vR r0), some (vR r1), some (vI x2), some (vI x3), some (vI x4), some (vI x5), some (vI (x6 + 1))] [] h n Q) : Rn d (bc) (bs) mX4_relayTime 60 [some (vR r0), some (vR r1), some (vI x2), some (vI x3), some (vI x4), some (vI x5), some (vI x6)] [] h n Q := by
  refine Rn_iinc dX4_relayTime_60 rfl (Nat.le_of_ble_eq_true rfl) rfl rfl rfl ?_
  rw [w32_id b1.1 b1.2]
  refine Rn_goto (tgt := 30) dX4_relayTime_63 rfl ?_
  exact k
theorem BX4_relayTime_66 {d bc bs : Nat} {h : aH} {n : Nat} {Q : aQ} {ar0 : Nat} {r1 : Option Nat} {x2 x3 x4 x5 x6 v3 : Int} {f1 : List aV} (h2 : h ar0 = cO 4 f1) (g4 : f1[4]? = some (vI v3)) (k : Q (some (vI v3)) h n) : Rn d (bc) (bs) mX4_relayTime 66 [some (vR (some ar0)), some (vR r1), some (vI x2), some (vI x3), some (vI x4), some (vI x5), some (vI x6)] [] h n Q := by
  refine Rn_aload_n dX4_relayTime_66 rfl rfl rfl ?_
  refine Rn_getfield (ci := 4) (k := 4) dX4_relayTime_67 rfl in_4 (Nat.le_of_ble_eq_true rfl) wd_413 rfl h2 g4 ?_
  exact Rn_ireturn rfl dX4_relayTime_70 k
theorem dX4_bestBetween_0 : decode cX4_bestBetween 0 = .ok (.aload_n 0, 1) := by decide +kernel
theorem dX4_bestBetween_1 : decode cX4_bestBetween 1 = .ok (.getfield 19, 3) := by decide +kernel
theorem dX4_bestBetween_4 : decode cX4_bestBetween 4 = .ok (.iload_n 1, 1) := by decide +kernel
theorem dX4_bestBetween_5 : decode cX4_bestBetween 5 = .ok (.invokestatic 56, 3) := by decide +kernel
theorem dX4_bestBetween_8 : decode cX4_bestBetween 8 = .ok (.ireturn, 1) := by decide +kernel
theorem BX4_bestBetween_0 {d bc bs : Nat} {h : aH} {n : Nat} {Q : aQ} {ar0 : Nat} {x1 : Int} {f1 : List aV} {t3 : Option Nat} (h2 : h ar0 = cO 4 f1) (g4 : f1[2]? = some (vR t3)) (k : Rn d 0 0 mX12_cell 0 [some (vR t3), some (vI x1)] [] h n (fun v h1 n1 => Rn (d + 1) bc bs mX4_bestBetween 8 [some (vR (some ar0)), some (vI x1)] (v.toList ++ []) h1 n1 Q)) : Rn (d + 1) (bc) (bs) mX4_bestBetween 0 [some (vR (some ar0)), some (vI x1)] [] h n Q := by
  refine Rn_aload_n dX4_bestBetween_0 rfl rfl rfl ?_
  refine Rn_getfield (ci := 4) (k := 2) dX4_bestBetween_1 rfl in_4 (Nat.le_of_ble_eq_true rfl) wd_410 rfl h2 g4 ?_
  refine Rn_iload_n dX4_bestBetween_4 rfl rfl ?_
  exact Rn_callS (avs := [vR t3, vI x1]) (st := []) (bc1 := 0) (bs1 := 0) (bc2 := bc) (bs2 := bs) fx_X12_cell dX4_bestBetween_5 (Or.inr ⟨"BottledPost", List.mem_of_getElem? (i := 23) rfl⟩) wd_967 rfl (Nat.le_of_ble_eq_true rfl) (Nat.le_of_ble_eq_true rfl) (by omega) (by omega) (ls1 := [some (vR t3), some (vI x1)]) rfl k
theorem BX4_bestBetween_8 {d bc bs : Nat} {h : aH} {n : Nat} {Q : aQ} {r0 : Option Nat} {x1 s0 : Int} (k : Q (some (vI s0)) h n) : Rn d (bc) (bs) mX4_bestBetween 8 [some (vR r0), some (vI x1)] [vI s0] h n Q := by
  exact Rn_ireturn rfl dX4_bestBetween_8 k
theorem dX4_goOn_0 : decode cX4_goOn 0 = .ok (.iload 5, 2) := by decide +kernel
theorem dX4_goOn_2 : decode cX4_goOn 2 = .ok (.aload_n 0, 1) := by decide +kernel
theorem dX4_goOn_3 : decode cX4_goOn 3 = .ok (.getfield 31, 3) := by decide +kernel
theorem dX4_goOn_6 : decode cX4_goOn 6 = .ok (.if_icmp .lt 13, 3) := by decide +kernel
theorem dX4_goOn_9 : decode cX4_goOn 9 = .ok (.aload_n 0, 1) := by decide +kernel
theorem dX4_goOn_10 : decode cX4_goOn 10 = .ok (.aload_n 1, 1) := by decide +kernel
theorem dX4_goOn_11 : decode cX4_goOn 11 = .ok (.iload_n 2, 1) := by decide +kernel
theorem dX4_goOn_12 : decode cX4_goOn 12 = .ok (.iload_n 3, 1) := by decide +kernel
theorem dX4_goOn_13 : decode cX4_goOn 13 = .ok (.iload 4, 2) := by decide +kernel
theorem dX4_goOn_15 : decode cX4_goOn 15 = .ok (.invokevirtual 60, 3) := by decide +kernel
theorem dX4_goOn_18 : decode cX4_goOn 18 = .ok (.return_, 1) := by decide +kernel
theorem dX4_goOn_19 : decode cX4_goOn 19 = .ok (.iconst 0, 1) := by decide +kernel
theorem dX4_goOn_20 : decode cX4_goOn 20 = .ok (.istore 7, 2) := by decide +kernel
theorem dX4_goOn_22 : decode cX4_goOn 22 = .ok (.iload 7, 2) := by decide +kernel
theorem dX4_goOn_24 : decode cX4_goOn 24 = .ok (.aload_n 1, 1) := by decide +kernel
theorem dX4_goOn_25 : decode cX4_goOn 25 = .ok (.getfield 49, 3) := by decide +kernel
theorem dX4_goOn_28 : decode cX4_goOn 28 = .ok (.if_icmp .ge 34, 3) := by decide +kernel
theorem dX4_goOn_31 : decode cX4_goOn 31 = .ok (.iload 6, 2) := by decide +kernel
theorem dX4_goOn_33 : decode cX4_goOn 33 = .ok (.iconst 1, 1) := by decide +kernel
theorem dX4_goOn_34 : decode cX4_goOn 34 = .ok (.iload 7, 2) := by decide +kernel
theorem dX4_goOn_36 : decode cX4_goOn 36 = .ok (.ishl, 1) := by decide +kernel
theorem dX4_goOn_37 : decode cX4_goOn 37 = .ok (.iand, 1) := by decide +kernel
theorem dX4_goOn_38 : decode cX4_goOn 38 = .ok (.ifCond .ne 18, 3) := by decide +kernel
theorem dX4_goOn_41 : decode cX4_goOn 41 = .ok (.aload_n 0, 1) := by decide +kernel
theorem dX4_goOn_42 : decode cX4_goOn 42 = .ok (.iload 7, 2) := by decide +kernel
theorem dX4_goOn_44 : decode cX4_goOn 44 = .ok (.aload_n 1, 1) := by decide +kernel
theorem dX4_goOn_45 : decode cX4_goOn 45 = .ok (.iload_n 2, 1) := by decide +kernel
theorem dX4_goOn_46 : decode cX4_goOn 46 = .ok (.iload_n 3, 1) := by decide +kernel
theorem dX4_goOn_47 : decode cX4_goOn 47 = .ok (.iload 4, 2) := by decide +kernel
theorem dX4_goOn_49 : decode cX4_goOn 49 = .ok (.iload 5, 2) := by decide +kernel
theorem dX4_goOn_51 : decode cX4_goOn 51 = .ok (.iload 6, 2) := by decide +kernel
theorem dX4_goOn_53 : decode cX4_goOn 53 = .ok (.invokevirtual 64, 3) := by decide +kernel
theorem dX4_goOn_56 : decode cX4_goOn 56 = .ok (.iinc 7 1, 3) := by decide +kernel
theorem dX4_goOn_59 : decode cX4_goOn 59 = .ok (.goto (-37), 3) := by decide +kernel
theorem dX4_goOn_62 : decode cX4_goOn 62 = .ok (.return_, 1) := by decide +kernel
theorem BX4_goOn_0 {d bc bs : Nat} {h : aH} {n : Nat} {Q : aQ} {ar0 : Nat} {r1 : Option Nat} {x2 x3 x4 x5 x6 v3 : Int} {l7 : Option aV} {f1 : List aV} (h2 : h ar0 = cO 4 f1) (g4 : f1[6]? = some (vI v3)) (kt : x5 < v3 → Rn d bc bs mX4_goOn 19 [some (vR (some ar0)), some (vR r1), some (vI x2), some (vI x3), some (vI x4), some (vI x5), some (vI x6), l7] [] h n Q) (kf : v3 ≤ x5 → Rn d bc bs mX4_goOn 9 [some (vR (some ar0)), some (vR r1), some (vI x2), some (vI x3), some (vI x4), some (vI x5), some (vI x6), l7] [] h n Q) : Rn d (bc) (bs) mX4_goOn 0 [some (vR (some ar0)), some (vR r1), some (vI x2), some (vI x3), some (vI x4), some (vI x5), some (vI x6), l7] [] h n Q := by
  refine Rn_iload dX4_goOn_0 rfl ?_
  refine Rn_aload_n dX4_goOn_2 rfl rfl rfl ?_
  refine Rn_getfield (ci := 4) (k := 6) dX4_goOn_3 rfl in_4 (Nat.le_of_ble_eq_true rfl) wd_415 rfl h2 g4 ?_
  refine Rn_icmplt (tgt := 19) dX4_goOn_6 rfl ?_ ?_
  · exact kt
  · exact kf
theorem BX4_goOn_9 {d bc bs : Nat} {h : aH} {n : Nat} {Q : aQ} {ar0 : Nat} {r1 : Option Nat} {x2 x3 x4 x5 x6 : Int} {l7 : Option aV} {f1 : List aV} (h2 : h ar0 = cO 4 f1) (k : Rn d 0 0 mX4_arrive 0 [some (vR (some ar0)), some (vR r1), some (vI x2), some (vI x3), some (vI x4), none] [] h n (fun v h1 n1 => Rn (d + 1) bc bs mX4_goOn 18 [some (vR (some ar0)), some (vR r1), some (vI x2), some (vI x3), some (vI x4), some (vI x5), some (vI x6), l7] (v.toList ++ []) h1 n1 Q)) : Rn (d + 1) (bc) (bs) mX4_goOn 9 [some (vR (some ar0)), some (vR r1), some (vI x2), some (vI x3), some (vI x4), some (vI x5), some (vI x6), l7] [] h n Q := by
  refine Rn_aload_n dX4_goOn_9 rfl rfl rfl ?_
  refine Rn_aload_n dX4_goOn_10 rfl rfl rfl ?_
  refine Rn_iload_n dX4_goOn_11 rfl rfl ?_
  refine Rn_iload_n dX4_goOn_12 rfl rfl ?_
  refine Rn_iload dX4_goOn_13 rfl ?_
  exact Rn_callV (ci := 4) (avs := [vR r1, vI x2, vI x3, vI x4]) (st := []) (bc1 := 0) (bs1 := 0) (bc2 := bc) (bs2 := bs) fx_X4_arrive dX4_goOn_15 wd_1100 wd_1102 wd_39 rfl h2 rfl (Nat.le_of_ble_eq_true rfl) (Nat.le_of_ble_eq_true rfl) (by omega) (by omega) (ls1 := [some (vR (some ar0)), some (vR r1), some (vI x2), some (vI x3), some (vI x4), none]) rfl k
theorem BX4_goOn_18 {d bc bs : Nat} {h : aH} {n : Nat} {Q : aQ} {r0 r1 : Option Nat} {x2 x3 x4 x5 x6 : Int} {l7 : Option aV} (k : Q none h n) : Rn d (bc) (bs) mX4_goOn 18 [some (vR r0), some (vR r1), some (vI x2), some (vI x3), some (vI x4), some (vI x5), some (vI x6), l7] [] h n Q := by
  exact Rn_return rfl dX4_goOn_18 k
theorem BX4_goOn_19 {d bc bs : Nat} {h : aH} {n : Nat} {Q : aQ} {r0 r1 : Option Nat} {x2 x3 x4 x5 x6 : Int} {l7 : Option aV} (k : Rn d bc bs mX4_goOn 22 [some (vR r0), some (vR r1), some (vI x2), some (vI x3), some (vI x4), some (vI x5), some (vI x6), some (vI 0)] [] h n Q) : Rn d (bc) (bs) mX4_goOn 19 [some (vR r0), some (vR r1), some (vI x2), some (vI x3), some (vI x4), some (vI x5), some (vI x6), l7] [] h n Q := by
  refine Rn_iconst dX4_goOn_19 rfl ?_
  refine Rn_istore dX4_goOn_20 (Nat.le_of_ble_eq_true rfl) rfl rfl ?_
  exact k
theorem BX4_goOn_22 {d bc bs : Nat} {h : aH} {n : Nat} {Q : aQ} {r0 : Option Nat} {ar1 : Nat} {x2 x3 x4 x5 x6 x7 v3 : Int} {f1 : List aV} (h2 : h ar1 = cO 7 f1) (g4 : f1[3]? = some (vI v3)) (kt : v3 ≤ x7 → Rn d bc bs mX4_goOn 62 [some (vR r0), some (vR (some ar1)), some (vI x2), some (vI x3), some (vI x4), some (vI x5), some (vI x6), some (vI x7)] [] h n Q) (kf : x7 < v3 → Rn d bc bs mX4_goOn 31 [some (vR r0), some (vR (some ar1)), some (vI x2), some (vI x3), some (vI x4), some (vI x5), some (vI x6), some (vI x7)] [] h n Q) : Rn d (bc) (bs) mX4_goOn 22 [some (vR r0), some (vR (some ar1)), some (vI x2), some (vI x3), some (vI x4), some (vI x5), some (vI x6), some (vI x7)] [] h n Q := by
  refine Rn_iload dX4_goOn_22 rfl ?_
  refine Rn_aload_n dX4_goOn_24 rfl rfl rfl ?_
  refine Rn_getfield (ci := 7) (k := 3) dX4_goOn_25 rfl in_7 (Nat.le_of_ble_eq_true rfl) wd_170 rfl h2 g4 ?_
  refine Rn_icmpge (tgt := 62) dX4_goOn_28 rfl ?_ ?_
  · exact kt
  · exact kf
theorem BX4_goOn_31 {d bc bs : Nat} {h : aH} {n : Nat} {Q : aQ} {r0 r1 : Option Nat} {x2 x3 x4 x5 x6 x7 : Int} (kt : (and32 x6 (shl32 1 x7)) ≠ 0 → Rn d bc bs mX4_goOn 56 [some (vR r0), some (vR r1), some (vI x2), some (vI x3), some (vI x4), some (vI x5), some (vI x6), some (vI x7)] [] h n Q) (kf : (and32 x6 (shl32 1 x7)) = 0 → Rn d bc bs mX4_goOn 41 [some (vR r0), some (vR r1), some (vI x2), some (vI x3), some (vI x4), some (vI x5), some (vI x6), some (vI x7)] [] h n Q) : Rn d (bc) (bs) mX4_goOn 31 [some (vR r0), some (vR r1), some (vI x2), some (vI x3), some (vI x4), some (vI x5), some (vI x6), some (vI x7)] [] h n Q := by
  refine Rn_iload dX4_goOn_31 rfl ?_
  refine Rn_iconst dX4_goOn_33 rfl ?_
  refine Rn_iload dX4_goOn_34 rfl ?_
  refine Rn_ishl dX4_goOn_36 ?_
  refine Rn_iand dX4_goOn_37 ?_
  refine Rn_ifne (tgt := 56) dX4_goOn_38 rfl ?_ ?_
  · exact kt
  · exact kf
theorem BX4_goOn_41 {d bc bs : Nat} {h : aH} {n : Nat} {Q : aQ} {ar0 : Nat} {r1 : Option Nat} {x2 x3 x4 x5 x6 x7 : Int} {f1 : List aV} (h2 : h ar0 = cO 4 f1) (k : Rn d 0 0 mX4_goBy 0 [some (vR (some ar0)), some (vI x7), some (vR r1), some (vI x2), some (vI x3), some (vI x4), some (vI x5), some (vI x6), none] [] h n (fun v h1 n1 => Rn (d + 1) bc bs mX4_goOn 56 [some (vR (some ar0)), some (vR r1), some (vI x2), some (vI x3), some (vI x4), some (vI x5), some (vI x6), some (vI x7)] (v.toList ++ []) h1 n1 Q)) : Rn (d + 1) (bc) (bs) mX4_goOn 41 [some (vR (some ar0)), some (vR r1), some (vI x2), some (vI x3), some (vI x4), some (vI x5), some (vI x6), some (vI x7)] [] h n Q := by
  refine Rn_aload_n dX4_goOn_41 rfl rfl rfl ?_
  refine Rn_iload dX4_goOn_42 rfl ?_
  refine Rn_aload_n dX4_goOn_44 rfl rfl rfl ?_
  refine Rn_iload_n dX4_goOn_45 rfl rfl ?_
  refine Rn_iload_n dX4_goOn_46 rfl rfl ?_
  refine Rn_iload dX4_goOn_47 rfl ?_
  refine Rn_iload dX4_goOn_49 rfl ?_
  refine Rn_iload dX4_goOn_51 rfl ?_
  exact Rn_callV (ci := 4) (avs := [vI x7, vR r1, vI x2, vI x3, vI x4, vI x5, vI x6]) (st := []) (bc1 := 0) (bs1 := 0) (bc2 := bc) (bs2 := bs) fx_X4_goBy dX4_goOn_53 wd_1106 wd_1108 wd_40 rfl h2 rfl (Nat.le_of_ble_eq_true rfl) (Nat.le_of_ble_eq_true rfl) (by omega) (by omega) (ls1 := [some (vR (some ar0)), some (vI x7), some (vR r1), some (vI x2), some (vI x3), some (vI x4), some (vI x5), some (vI x6), none]) rfl k
theorem BX4_goOn_56 {d bc bs : Nat} {h : aH} {n : Nat} {Q : aQ} {r0 r1 : Option Nat} {x2 x3 x4 x5 x6 x7 : Int} (b1 : -2147483648 ≤ x7 + 1 ∧ x7 + 1 < 2147483648) (k : Rn d bc bs mX4_goOn 22 [some (vR r0), some (vR r1), some (vI x2), some (vI x3), some (vI x4), some (vI x5), some (vI x6), some (vI (x7 + 1))] [] h n Q) : Rn d (bc) (bs) mX4_goOn 56 [some (vR r0), some (vR r1), some (vI x2), some (vI x3), some (vI x4), some (vI x5), some (vI x6), some (vI x7)] [] h n Q := by
  refine Rn_iinc dX4_goOn_56 rfl (Nat.le_of_ble_eq_true rfl) rfl rfl rfl ?_
  rw [w32_id b1.1 b1.2]
  refine Rn_goto (tgt := 22) dX4_goOn_59 rfl ?_
  exact k
theorem BX4_goOn_62 {d bc bs : Nat} {h : aH} {n : Nat} {Q : aQ} {r0 r1 : Option Nat} {x2 x3 x4 x5 x6 x7 : Int} (k : Q none h n) : Rn d (bc) (bs) mX4_goOn 62 [some (vR r0), some (vR r1), some (vI x2), some (vI x3), some (vI x4), some (vI x5), some (vI x6), some (vI x7)] [] h n Q := by
  exact Rn_return rfl dX4_goOn_62 k
theorem dX4_goBy_0 : decode cX4_goBy 0 = .ok (.aload_n 0, 1) := by decide +kernel
theorem dX4_goBy_1 : decode cX4_goBy 1 = .ok (.aload_n 2, 1) := by decide +kernel
theorem dX4_goBy_2 : decode cX4_goBy 2 = .ok (.iload_n 3, 1) := by decide +kernel
theorem dX4_goBy_3 : decode cX4_goBy 3 = .ok (.iload_n 1, 1) := by decide +kernel
theorem dX4_goBy_4 : decode cX4_goBy 4 = .ok (.iload 4, 2) := by decide +kernel
theorem dX4_goBy_6 : decode cX4_goBy 6 = .ok (.iload 5, 2) := by decide +kernel
theorem dX4_goBy_8 : decode cX4_goBy 8 = .ok (.iadd, 1) := by decide +kernel
theorem dX4_goBy_9 : decode cX4_goBy 9 = .ok (.bipush 20, 2) := by decide +kernel
theorem dX4_goBy_11 : decode cX4_goBy 11 = .ok (.invokevirtual 68, 3) := by decide +kernel
theorem dX4_goBy_14 : decode cX4_goBy 14 = .ok (.istore 8, 2) := by decide +kernel
theorem dX4_goBy_16 : decode cX4_goBy 16 = .ok (.iload 8, 2) := by decide +kernel
theorem dX4_goBy_18 : decode cX4_goBy 18 = .ok (.iconst (-1), 1) := by decide +kernel
theorem dX4_goBy_19 : decode cX4_goBy 19 = .ok (.if_icmp .eq 13, 3) := by decide +kernel
theorem dX4_goBy_22 : decode cX4_goBy 22 = .ok (.iload 5, 2) := by decide +kernel
theorem dX4_goBy_24 : decode cX4_goBy 24 = .ok (.iload 8, 2) := by decide +kernel
theorem dX4_goBy_26 : decode cX4_goBy 26 = .ok (.iadd, 1) := by decide +kernel
theorem dX4_goBy_27 : decode cX4_goBy 27 = .ok (.bipush 60, 2) := by decide +kernel
theorem dX4_goBy_29 : decode cX4_goBy 29 = .ok (.if_icmp .le 4, 3) := by decide +kernel
theorem dX4_goBy_32 : decode cX4_goBy 32 = .ok (.return_, 1) := by decide +kernel
theorem dX4_goBy_33 : decode cX4_goBy 33 = .ok (.aload_n 0, 1) := by decide +kernel
theorem dX4_goBy_34 : decode cX4_goBy 34 = .ok (.getfield 15, 3) := by decide +kernel
theorem dX4_goBy_37 : decode cX4_goBy 37 = .ok (.iload 6, 2) := by decide +kernel
theorem dX4_goBy_39 : decode cX4_goBy 39 = .ok (.iload_n 1, 1) := by decide +kernel
theorem dX4_goBy_40 : decode cX4_goBy 40 = .ok (.invokestatic 72, 3) := by decide +kernel
theorem dX4_goBy_43 : decode cX4_goBy 43 = .ok (.aload_n 0, 1) := by decide +kernel
theorem dX4_goBy_44 : decode cX4_goBy 44 = .ok (.aload_n 2, 1) := by decide +kernel
theorem dX4_goBy_45 : decode cX4_goBy 45 = .ok (.iload_n 1, 1) := by decide +kernel
theorem dX4_goBy_46 : decode cX4_goBy 46 = .ok (.iload 4, 2) := by decide +kernel
theorem dX4_goBy_48 : decode cX4_goBy 48 = .ok (.iload 5, 2) := by decide +kernel
theorem dX4_goBy_50 : decode cX4_goBy 50 = .ok (.iload 8, 2) := by decide +kernel
theorem dX4_goBy_52 : decode cX4_goBy 52 = .ok (.iadd, 1) := by decide +kernel
theorem dX4_goBy_53 : decode cX4_goBy 53 = .ok (.iload 6, 2) := by decide +kernel
theorem dX4_goBy_55 : decode cX4_goBy 55 = .ok (.iconst 1, 1) := by decide +kernel
theorem dX4_goBy_56 : decode cX4_goBy 56 = .ok (.iadd, 1) := by decide +kernel
theorem dX4_goBy_57 : decode cX4_goBy 57 = .ok (.iload 7, 2) := by decide +kernel
theorem dX4_goBy_59 : decode cX4_goBy 59 = .ok (.iconst 1, 1) := by decide +kernel
theorem dX4_goBy_60 : decode cX4_goBy 60 = .ok (.iload_n 1, 1) := by decide +kernel
theorem dX4_goBy_61 : decode cX4_goBy 61 = .ok (.ishl, 1) := by decide +kernel
theorem dX4_goBy_62 : decode cX4_goBy 62 = .ok (.ior, 1) := by decide +kernel
theorem dX4_goBy_63 : decode cX4_goBy 63 = .ok (.invokevirtual 52, 3) := by decide +kernel
theorem dX4_goBy_66 : decode cX4_goBy 66 = .ok (.return_, 1) := by decide +kernel
theorem BX4_goBy_0 {d bc bs : Nat} {h : aH} {n : Nat} {Q : aQ} {ar0 : Nat} {x1 x3 x4 x5 x6 x7 : Int} {r2 : Option Nat} {l8 : Option aV} {f2 : List aV} (b1 : -2147483648 ≤ x4 + x5 ∧ x4 + x5 < 2147483648) (h3 : h ar0 = cO 4 f2) (k : Rn d 0 0 mX4_meet 0 [some (vR (some ar0)), some (vR r2), some (vI x3), some (vI x1), some (vI (x4 + x5)), some (vI 20), none, none, none, none, none] [] h n (fun v h1 n1 => Rn (d + 1) bc bs mX4_goBy 14 [some (vR (some ar0)), some (vI x1), some (vR r2), some (vI x3), some (vI x4), some (vI x5), some (vI x6), some (vI x7), l8] (v.toList ++ []) h1 n1 Q)) : Rn (d + 1) (bc) (bs) mX4_goBy 0 [some (vR (some ar0)), some (vI x1), some (vR r2), some (vI x3), some (vI x4), some (vI x5), some (vI x6), some (vI x7), l8] [] h n Q := by
  refine Rn_aload_n dX4_goBy_0 rfl rfl rfl ?_
  refine Rn_aload_n dX4_goBy_1 rfl rfl rfl ?_
  refine Rn_iload_n dX4_goBy_2 rfl rfl ?_
  refine Rn_iload_n dX4_goBy_3 rfl rfl ?_
  refine Rn_iload dX4_goBy_4 rfl ?_
  refine Rn_iload dX4_goBy_6 rfl ?_
  refine Rn_iadd dX4_goBy_8 ?_
  rw [w32_id b1.1 b1.2]
  refine Rn_bipush dX4_goBy_9 rfl ?_
  exact Rn_callV (ci := 4) (avs := [vR r2, vI x3, vI x1, vI (x4 + x5), vI 20]) (st := []) (bc1 := 0) (bs1 := 0) (bc2 := bc) (bs2 := bs) fx_X4_meet dX4_goBy_11 wd_1104 wd_1082 wd_1083 rfl h3 rfl (Nat.le_of_ble_eq_true rfl) (Nat.le_of_ble_eq_true rfl) (by omega) (by omega) (ls1 := [some (vR (some ar0)), some (vR r2), some (vI x3), some (vI x1), some (vI (x4 + x5)), some (vI 20), none, none, none, none, none]) rfl k
theorem BX4_goBy_14 {d bc bs : Nat} {h : aH} {n : Nat} {Q : aQ} {r0 r2 : Option Nat} {x1 x3 x4 x5 x6 x7 s0 : Int} {l8 : Option aV} (kt : s0 = (-1) → Rn d bc bs mX4_goBy 32 [some (vR r0), some (vI x1), some (vR r2), some (vI x3), some (vI x4), some (vI x5), some (vI x6), some (vI x7), some (vI s0)] [] h n Q) (kf : s0 ≠ (-1) → Rn d bc bs mX4_goBy 22 [some (vR r0), some (vI x1), some (vR r2), some (vI x3), some (vI x4), some (vI x5), some (vI x6), some (vI x7), some (vI s0)] [] h n Q) : Rn d (bc) (bs) mX4_goBy 14 [some (vR r0), some (vI x1), some (vR r2), some (vI x3), some (vI x4), some (vI x5), some (vI x6), some (vI x7), l8] [vI s0] h n Q := by
  refine Rn_istore dX4_goBy_14 (Nat.le_of_ble_eq_true rfl) rfl rfl ?_
  refine Rn_iload dX4_goBy_16 rfl ?_
  refine Rn_iconst dX4_goBy_18 rfl ?_
  refine Rn_icmpeq (tgt := 32) dX4_goBy_19 rfl ?_ ?_
  · exact kt
  · exact kf
theorem BX4_goBy_22 {d bc bs : Nat} {h : aH} {n : Nat} {Q : aQ} {r0 r2 : Option Nat} {x1 x3 x4 x5 x6 x7 x8 : Int} (b1 : -2147483648 ≤ x5 + x8 ∧ x5 + x8 < 2147483648) (kt : (x5 + x8) ≤ 60 → Rn d bc bs mX4_goBy 33 [some (vR r0), some (vI x1), some (vR r2), some (vI x3), some (vI x4), some (vI x5), some (vI x6), some (vI x7), some (vI x8)] [] h n Q) (kf : 60 < (x5 + x8) → Rn d bc bs mX4_goBy 32 [some (vR r0), some (vI x1), some (vR r2), some (vI x3), some (vI x4), some (vI x5), some (vI x6), some (vI x7), some (vI x8)] [] h n Q) : Rn d (bc) (bs) mX4_goBy 22 [some (vR r0), some (vI x1), some (vR r2), some (vI x3), some (vI x4), some (vI x5), some (vI x6), some (vI x7), some (vI x8)] [] h n Q := by
  refine Rn_iload dX4_goBy_22 rfl ?_
  refine Rn_iload dX4_goBy_24 rfl ?_
  refine Rn_iadd dX4_goBy_26 ?_
  rw [w32_id b1.1 b1.2]
  refine Rn_bipush dX4_goBy_27 rfl ?_
  refine Rn_icmple (tgt := 33) dX4_goBy_29 rfl ?_ ?_
  · exact kt
  · exact kf
theorem BX4_goBy_32 {d bc bs : Nat} {h : aH} {n : Nat} {Q : aQ} {r0 r2 : Option Nat} {x1 x3 x4 x5 x6 x7 x8 : Int} (k : Q none h n) : Rn d (bc) (bs) mX4_goBy 32 [some (vR r0), some (vI x1), some (vR r2), some (vI x3), some (vI x4), some (vI x5), some (vI x6), some (vI x7), some (vI x8)] [] h n Q := by
  exact Rn_return rfl dX4_goBy_32 k
theorem BX4_goBy_33 {d bc bs : Nat} {h : aH} {n : Nat} {Q : aQ} {ar0 : Nat} {x1 x3 x4 x5 x6 x7 x8 : Int} {r2 t3 : Option Nat} {f1 : List aV} (h2 : h ar0 = cO 4 f1) (g4 : f1[1]? = some (vR t3)) (k : Rn d 0 0 mX12_setCell 0 [some (vR t3), some (vI x6), some (vI x1)] [] h n (fun v h1 n1 => Rn (d + 1) bc bs mX4_goBy 43 [some (vR (some ar0)), some (vI x1), some (vR r2), some (vI x3), some (vI x4), some (vI x5), some (vI x6), some (vI x7), some (vI x8)] (v.toList ++ []) h1 n1 Q)) : Rn (d + 1) (bc) (bs) mX4_goBy 33 [some (vR (some ar0)), some (vI x1), some (vR r2), some (vI x3), some (vI x4), some (vI x5), some (vI x6), some (vI x7), some (vI x8)] [] h n Q := by
  refine Rn_aload_n dX4_goBy_33 rfl rfl rfl ?_
  refine Rn_getfield (ci := 4) (k := 1) dX4_goBy_34 rfl in_4 (Nat.le_of_ble_eq_true rfl) wd_409 rfl h2 g4 ?_
  refine Rn_iload dX4_goBy_37 rfl ?_
  refine Rn_iload_n dX4_goBy_39 rfl rfl ?_
  exact Rn_callS (avs := [vR t3, vI x6, vI x1]) (st := []) (bc1 := 0) (bs1 := 0) (bc2 := bc) (bs2 := bs) fx_X12_setCell dX4_goBy_40 (Or.inr ⟨"BottledPost", List.mem_of_getElem? (i := 22) rfl⟩) wd_164 rfl (Nat.le_of_ble_eq_true rfl) (Nat.le_of_ble_eq_true rfl) (by omega) (by omega) (ls1 := [some (vR t3), some (vI x6), some (vI x1)]) rfl k
theorem BX4_goBy_43 {d bc bs : Nat} {h : aH} {n : Nat} {Q : aQ} {ar0 : Nat} {x1 x3 x4 x5 x6 x7 x8 : Int} {r2 : Option Nat} {f3 : List aV} (b1 : -2147483648 ≤ x5 + x8 ∧ x5 + x8 < 2147483648) (b2 : -2147483648 ≤ x6 + 1 ∧ x6 + 1 < 2147483648) (h4 : h ar0 = cO 4 f3) (k : Rn d 0 0 mX4_goOn 0 [some (vR (some ar0)), some (vR r2), some (vI x1), some (vI x4), some (vI (x5 + x8)), some (vI (x6 + 1)), some (vI (or32 x7 (shl32 1 x1))), none] [] h n (fun v h1 n1 => Rn (d + 1) bc bs mX4_goBy 66 [some (vR (some ar0)), some (vI x1), some (vR r2), some (vI x3), some (vI x4), some (vI x5), some (vI x6), some (vI x7), some (vI x8)] (v.toList ++ []) h1 n1 Q)) : Rn (d + 1) (bc) (bs) mX4_goBy 43 [some (vR (some ar0)), some (vI x1), some (vR r2), some (vI x3), some (vI x4), some (vI x5), some (vI x6), some (vI x7), some (vI x8)] [] h n Q := by
  refine Rn_aload_n dX4_goBy_43 rfl rfl rfl ?_
  refine Rn_aload_n dX4_goBy_44 rfl rfl rfl ?_
  refine Rn_iload_n dX4_goBy_45 rfl rfl ?_
  refine Rn_iload dX4_goBy_46 rfl ?_
  refine Rn_iload dX4_goBy_48 rfl ?_
  refine Rn_iload dX4_goBy_50 rfl ?_
  refine Rn_iadd dX4_goBy_52 ?_
  rw [w32_id b1.1 b1.2]
  refine Rn_iload dX4_goBy_53 rfl ?_
  refine Rn_iconst dX4_goBy_55 rfl ?_
  refine Rn_iadd dX4_goBy_56 ?_
  rw [w32_id b2.1 b2.2]
  refine Rn_iload dX4_goBy_57 rfl ?_
  refine Rn_iconst dX4_goBy_59 rfl ?_
  refine Rn_iload_n dX4_goBy_60 rfl rfl ?_
  refine Rn_ishl dX4_goBy_61 ?_
  refine Rn_ior dX4_goBy_62 ?_
  exact Rn_callV (ci := 4) (avs := [vR r2, vI x1, vI x4, vI (x5 + x8), vI (x6 + 1), vI (or32 x7 (shl32 1 x1))]) (st := []) (bc1 := 0) (bs1 := 0) (bc2 := bc) (bs2 := bs) fx_X4_goOn dX4_goBy_63 wd_1096 wd_1098 wd_38 rfl h4 rfl (Nat.le_of_ble_eq_true rfl) (Nat.le_of_ble_eq_true rfl) (by omega) (by omega) (ls1 := [some (vR (some ar0)), some (vR r2), some (vI x1), some (vI x4), some (vI (x5 + x8)), some (vI (x6 + 1)), some (vI (or32 x7 (shl32 1 x1))), none]) rfl k
theorem BX4_goBy_66 {d bc bs : Nat} {h : aH} {n : Nat} {Q : aQ} {r0 r2 : Option Nat} {x1 x3 x4 x5 x6 x7 x8 : Int} (k : Q none h n) : Rn d (bc) (bs) mX4_goBy 66 [some (vR r0), some (vI x1), some (vR r2), some (vI x3), some (vI x4), some (vI x5), some (vI x6), some (vI x7), some (vI x8)] [] h n Q := by
  exact Rn_return rfl dX4_goBy_66 k
theorem dX4_arrive_0 : decode cX4_arrive 0 = .ok (.aload_n 0, 1) := by decide +kernel
theorem dX4_arrive_1 : decode cX4_arrive 1 = .ok (.aload_n 1, 1) := by decide +kernel
theorem dX4_arrive_2 : decode cX4_arrive 2 = .ok (.iload_n 2, 1) := by decide +kernel
theorem dX4_arrive_3 : decode cX4_arrive 3 = .ok (.aload_n 0, 1) := by decide +kernel
theorem dX4_arrive_4 : decode cX4_arrive 4 = .ok (.getfield 28, 3) := by decide +kernel
theorem dX4_arrive_7 : decode cX4_arrive 7 = .ok (.iload_n 3, 1) := by decide +kernel
theorem dX4_arrive_8 : decode cX4_arrive 8 = .ok (.iload 4, 2) := by decide +kernel
theorem dX4_arrive_10 : decode cX4_arrive 10 = .ok (.iadd, 1) := by decide +kernel
theorem dX4_arrive_11 : decode cX4_arrive 11 = .ok (.bipush 20, 2) := by decide +kernel
theorem dX4_arrive_13 : decode cX4_arrive 13 = .ok (.invokevirtual 68, 3) := by decide +kernel
theorem dX4_arrive_16 : decode cX4_arrive 16 = .ok (.istore 5, 2) := by decide +kernel
theorem dX4_arrive_18 : decode cX4_arrive 18 = .ok (.iload 5, 2) := by decide +kernel
theorem dX4_arrive_20 : decode cX4_arrive 20 = .ok (.iconst (-1), 1) := by decide +kernel
theorem dX4_arrive_21 : decode cX4_arrive 21 = .ok (.if_icmp .eq 13, 3) := by decide +kernel
theorem dX4_arrive_24 : decode cX4_arrive 24 = .ok (.iload 4, 2) := by decide +kernel
theorem dX4_arrive_26 : decode cX4_arrive 26 = .ok (.iload 5, 2) := by decide +kernel
theorem dX4_arrive_28 : decode cX4_arrive 28 = .ok (.iadd, 1) := by decide +kernel
theorem dX4_arrive_29 : decode cX4_arrive 29 = .ok (.bipush 60, 2) := by decide +kernel
theorem dX4_arrive_31 : decode cX4_arrive 31 = .ok (.if_icmp .le 4, 3) := by decide +kernel
theorem dX4_arrive_34 : decode cX4_arrive 34 = .ok (.return_, 1) := by decide +kernel
theorem dX4_arrive_35 : decode cX4_arrive 35 = .ok (.aload_n 0, 1) := by decide +kernel
theorem dX4_arrive_36 : decode cX4_arrive 36 = .ok (.getfield 25, 3) := by decide +kernel
theorem dX4_arrive_39 : decode cX4_arrive 39 = .ok (.iconst (-1), 1) := by decide +kernel
theorem dX4_arrive_40 : decode cX4_arrive 40 = .ok (.if_icmp .eq 16, 3) := by decide +kernel
theorem dX4_arrive_43 : decode cX4_arrive 43 = .ok (.iload 4, 2) := by decide +kernel
theorem dX4_arrive_45 : decode cX4_arrive 45 = .ok (.iload 5, 2) := by decide +kernel
theorem dX4_arrive_47 : decode cX4_arrive 47 = .ok (.iadd, 1) := by decide +kernel
theorem dX4_arrive_48 : decode cX4_arrive 48 = .ok (.aload_n 0, 1) := by decide +kernel
theorem dX4_arrive_49 : decode cX4_arrive 49 = .ok (.getfield 25, 3) := by decide +kernel
theorem dX4_arrive_52 : decode cX4_arrive 52 = .ok (.if_icmp .lt 4, 3) := by decide +kernel
theorem dX4_arrive_55 : decode cX4_arrive 55 = .ok (.return_, 1) := by decide +kernel
theorem dX4_arrive_56 : decode cX4_arrive 56 = .ok (.aload_n 0, 1) := by decide +kernel
theorem dX4_arrive_57 : decode cX4_arrive 57 = .ok (.iload 4, 2) := by decide +kernel
theorem dX4_arrive_59 : decode cX4_arrive 59 = .ok (.iload 5, 2) := by decide +kernel
theorem dX4_arrive_61 : decode cX4_arrive 61 = .ok (.iadd, 1) := by decide +kernel
theorem dX4_arrive_62 : decode cX4_arrive 62 = .ok (.putfield 25, 3) := by decide +kernel
theorem dX4_arrive_65 : decode cX4_arrive 65 = .ok (.aload_n 0, 1) := by decide +kernel
theorem dX4_arrive_66 : decode cX4_arrive 66 = .ok (.aload_n 0, 1) := by decide +kernel
theorem dX4_arrive_67 : decode cX4_arrive 67 = .ok (.getfield 31, 3) := by decide +kernel
theorem dX4_arrive_70 : decode cX4_arrive 70 = .ok (.putfield 22, 3) := by decide +kernel
theorem dX4_arrive_73 : decode cX4_arrive 73 = .ok (.aload_n 0, 1) := by decide +kernel
theorem dX4_arrive_74 : decode cX4_arrive 74 = .ok (.getfield 15, 3) := by decide +kernel
theorem dX4_arrive_77 : decode cX4_arrive 77 = .ok (.aload_n 0, 1) := by decide +kernel
theorem dX4_arrive_78 : decode cX4_arrive 78 = .ok (.getfield 19, 3) := by decide +kernel
theorem dX4_arrive_81 : decode cX4_arrive 81 = .ok (.invokestatic 76, 3) := by decide +kernel
theorem dX4_arrive_84 : decode cX4_arrive 84 = .ok (.return_, 1) := by decide +kernel
theorem BX4_arrive_0 {d bc bs : Nat} {h : aH} {n : Nat} {Q : aQ} {ar0 : Nat} {r1 : Option Nat} {x2 x3 x4 v3 : Int} {l5 : Option aV} {f1 : List aV} (h2 : h ar0 = cO 4 f1) (g4 : f1[5]? = some (vI v3)) (b5 : -2147483648 ≤ x3 + x4 ∧ x3 + x4 < 2147483648) (k : Rn d 0 0 mX4_meet 0 [some (vR (some ar0)), some (vR r1), some (vI x2), some (vI v3), some (vI (x3 + x4)), some (vI 20), none, none, none, none, none] [] h n (fun v h1 n1 => Rn (d + 1) bc bs mX4_arrive 16 [some (vR (some ar0)), some (vR r1), some (vI x2), some (vI x3), some (vI x4), l5] (v.toList ++ []) h1 n1 Q)) : Rn (d + 1) (bc) (bs) mX4_arrive 0 [some (vR (some ar0)), some (vR r1), some (vI x2), some (vI x3), some (vI x4), l5] [] h n Q := by
  refine Rn_aload_n dX4_arrive_0 rfl rfl rfl ?_
  refine Rn_aload_n dX4_arrive_1 rfl rfl rfl ?_
  refine Rn_iload_n dX4_arrive_2 rfl rfl ?_
  refine Rn_aload_n dX4_arrive_3 rfl rfl rfl ?_
  refine Rn_getfield (ci := 4) (k := 5) dX4_arrive_4 rfl in_4 (Nat.le_of_ble_eq_true rfl) wd_414 rfl h2 g4 ?_
  refine Rn_iload_n dX4_arrive_7 rfl rfl ?_
  refine Rn_iload dX4_arrive_8 rfl ?_
  refine Rn_iadd dX4_arrive_10 ?_
  rw [w32_id b5.1 b5.2]
  refine Rn_bipush dX4_arrive_11 rfl ?_
  exact Rn_callV (ci := 4) (avs := [vR r1, vI x2, vI v3, vI (x3 + x4), vI 20]) (st := []) (bc1 := 0) (bs1 := 0) (bc2 := bc) (bs2 := bs) fx_X4_meet dX4_arrive_13 wd_1104 wd_1082 wd_1083 rfl h2 rfl (Nat.le_of_ble_eq_true rfl) (Nat.le_of_ble_eq_true rfl) (by omega) (by omega) (ls1 := [some (vR (some ar0)), some (vR r1), some (vI x2), some (vI v3), some (vI (x3 + x4)), some (vI 20), none, none, none, none, none]) rfl k
theorem BX4_arrive_16 {d bc bs : Nat} {h : aH} {n : Nat} {Q : aQ} {r0 r1 : Option Nat} {x2 x3 x4 s0 : Int} {l5 : Option aV} (kt : s0 = (-1) → Rn d bc bs mX4_arrive 34 [some (vR r0), some (vR r1), some (vI x2), some (vI x3), some (vI x4), some (vI s0)] [] h n Q) (kf : s0 ≠ (-1) → Rn d bc bs mX4_arrive 24 [some (vR r0), some (vR r1), some (vI x2), some (vI x3), some (vI x4), some (vI s0)] [] h n Q) : Rn d (bc) (bs) mX4_arrive 16 [some (vR r0), some (vR r1), some (vI x2), some (vI x3), some (vI x4), l5] [vI s0] h n Q := by
  refine Rn_istore dX4_arrive_16 (Nat.le_of_ble_eq_true rfl) rfl rfl ?_
  refine Rn_iload dX4_arrive_18 rfl ?_
  refine Rn_iconst dX4_arrive_20 rfl ?_
  refine Rn_icmpeq (tgt := 34) dX4_arrive_21 rfl ?_ ?_
  · exact kt
  · exact kf
theorem BX4_arrive_24 {d bc bs : Nat} {h : aH} {n : Nat} {Q : aQ} {r0 r1 : Option Nat} {x2 x3 x4 x5 : Int} (b1 : -2147483648 ≤ x4 + x5 ∧ x4 + x5 < 2147483648) (kt : (x4 + x5) ≤ 60 → Rn d bc bs mX4_arrive 35 [some (vR r0), some (vR r1), some (vI x2), some (vI x3), some (vI x4), some (vI x5)] [] h n Q) (kf : 60 < (x4 + x5) → Rn d bc bs mX4_arrive 34 [some (vR r0), some (vR r1), some (vI x2), some (vI x3), some (vI x4), some (vI x5)] [] h n Q) : Rn d (bc) (bs) mX4_arrive 24 [some (vR r0), some (vR r1), some (vI x2), some (vI x3), some (vI x4), some (vI x5)] [] h n Q := by
  refine Rn_iload dX4_arrive_24 rfl ?_
  refine Rn_iload dX4_arrive_26 rfl ?_
  refine Rn_iadd dX4_arrive_28 ?_
  rw [w32_id b1.1 b1.2]
  refine Rn_bipush dX4_arrive_29 rfl ?_
  refine Rn_icmple (tgt := 35) dX4_arrive_31 rfl ?_ ?_
  · exact kt
  · exact kf
theorem BX4_arrive_34 {d bc bs : Nat} {h : aH} {n : Nat} {Q : aQ} {r0 r1 : Option Nat} {x2 x3 x4 x5 : Int} (k : Q none h n) : Rn d (bc) (bs) mX4_arrive 34 [some (vR r0), some (vR r1), some (vI x2), some (vI x3), some (vI x4), some (vI x5)] [] h n Q := by
  exact Rn_return rfl dX4_arrive_34 k
theorem BX4_arrive_35 {d bc bs : Nat} {h : aH} {n : Nat} {Q : aQ} {ar0 : Nat} {r1 : Option Nat} {x2 x3 x4 x5 v3 : Int} {f1 : List aV} (h2 : h ar0 = cO 4 f1) (g4 : f1[4]? = some (vI v3)) (kt : v3 = (-1) → Rn d bc bs mX4_arrive 56 [some (vR (some ar0)), some (vR r1), some (vI x2), some (vI x3), some (vI x4), some (vI x5)] [] h n Q) (kf : v3 ≠ (-1) → Rn d bc bs mX4_arrive 43 [some (vR (some ar0)), some (vR r1), some (vI x2), some (vI x3), some (vI x4), some (vI x5)] [] h n Q) : Rn d (bc) (bs) mX4_arrive 35 [some (vR (some ar0)), some (vR r1), some (vI x2), some (vI x3), some (vI x4), some (vI x5)] [] h n Q := by
  refine Rn_aload_n dX4_arrive_35 rfl rfl rfl ?_
  refine Rn_getfield (ci := 4) (k := 4) dX4_arrive_36 rfl in_4 (Nat.le_of_ble_eq_true rfl) wd_413 rfl h2 g4 ?_
  refine Rn_iconst dX4_arrive_39 rfl ?_
  refine Rn_icmpeq (tgt := 56) dX4_arrive_40 rfl ?_ ?_
  · exact kt
  · exact kf
theorem BX4_arrive_43 {d bc bs : Nat} {h : aH} {n : Nat} {Q : aQ} {ar0 : Nat} {r1 : Option Nat} {x2 x3 x4 x5 v4 : Int} {f2 : List aV} (b1 : -2147483648 ≤ x4 + x5 ∧ x4 + x5 < 2147483648) (h3 : h ar0 = cO 4 f2) (g5 : f2[4]? = some (vI v4)) (kt : (x4 + x5) < v4 → Rn d bc bs mX4_arrive 56 [some (vR (some ar0)), some (vR r1), some (vI x2), some (vI x3), some (vI x4), some (vI x5)] [] h n Q) (kf : v4 ≤ (x4 + x5) → Rn d bc bs mX4_arrive 55 [some (vR (some ar0)), some (vR r1), some (vI x2), some (vI x3), some (vI x4), some (vI x5)] [] h n Q) : Rn d (bc) (bs) mX4_arrive 43 [some (vR (some ar0)), some (vR r1), some (vI x2), some (vI x3), some (vI x4), some (vI x5)] [] h n Q := by
  refine Rn_iload dX4_arrive_43 rfl ?_
  refine Rn_iload dX4_arrive_45 rfl ?_
  refine Rn_iadd dX4_arrive_47 ?_
  rw [w32_id b1.1 b1.2]
  refine Rn_aload_n dX4_arrive_48 rfl rfl rfl ?_
  refine Rn_getfield (ci := 4) (k := 4) dX4_arrive_49 rfl in_4 (Nat.le_of_ble_eq_true rfl) wd_413 rfl h3 g5 ?_
  refine Rn_icmplt (tgt := 56) dX4_arrive_52 rfl ?_ ?_
  · exact kt
  · exact kf
theorem BX4_arrive_55 {d bc bs : Nat} {h : aH} {n : Nat} {Q : aQ} {r0 r1 : Option Nat} {x2 x3 x4 x5 : Int} (k : Q none h n) : Rn d (bc) (bs) mX4_arrive 55 [some (vR r0), some (vR r1), some (vI x2), some (vI x3), some (vI x4), some (vI x5)] [] h n Q := by
  exact Rn_return rfl dX4_arrive_55 k
theorem BX4_arrive_56 {d bc bs : Nat} {h : aH} {n : Nat} {Q : aQ} {ar0 : Nat} {r1 : Option Nat} {x2 x3 x4 x5 : Int} {f2 : List aV} (b1 : -2147483648 ≤ x4 + x5 ∧ x4 + x5 < 2147483648) (h3 : h ar0 = cO 4 f2) (m4 : 4 < f2.length) (k : Rn d bc bs mX4_arrive 65 [some (vR (some ar0)), some (vR r1), some (vI x2), some (vI x3), some (vI x4), some (vI x5)] [] (up h ar0 (cO 4 (f2.set 4 (vI (x4 + x5))))) n Q) : Rn d (bc) (bs) mX4_arrive 56 [some (vR (some ar0)), some (vR r1), some (vI x2), some (vI x3), some (vI x4), some (vI x5)] [] h n Q := by
  refine Rn_aload_n dX4_arrive_56 rfl rfl rfl ?_
  refine Rn_iload dX4_arrive_57 rfl ?_
  refine Rn_iload dX4_arrive_59 rfl ?_
  refine Rn_iadd dX4_arrive_61 ?_
  rw [w32_id b1.1 b1.2]
  refine Rn_putfield (ci := 4) (k := 4) dX4_arrive_62 rfl in_4 tyX4_ok nmX4 (Nat.le_of_ble_eq_true rfl) wd_413 rfl (Or.inl rfl) trivial m4 h3 ?_
  exact k
theorem BX4_arrive_65 {d bc bs : Nat} {h : aH} {n : Nat} {Q : aQ} {ar0 : Nat} {r1 : Option Nat} {x2 x3 x4 x5 v3 : Int} {f1 : List aV} (h2 : h ar0 = cO 4 f1) (g4 : f1[6]? = some (vI v3)) (m5 : 3 < f1.length) (k : Rn d bc bs mX4_arrive 73 [some (vR (some ar0)), some (vR r1), some (vI x2), some (vI x3), some (vI x4), some (vI x5)] [] (up h ar0 (cO 4 (f1.set 3 (vI v3)))) n Q) : Rn d (bc) (bs) mX4_arrive 65 [some (vR (some ar0)), some (vR r1), some (vI x2), some (vI x3), some (vI x4), some (vI x5)] [] h n Q := by
  refine Rn_aload_n dX4_arrive_65 rfl rfl rfl ?_
  refine Rn_aload_n dX4_arrive_66 rfl rfl rfl ?_
  refine Rn_getfield (ci := 4) (k := 6) dX4_arrive_67 rfl in_4 (Nat.le_of_ble_eq_true rfl) wd_415 rfl h2 g4 ?_
  refine Rn_putfield (ci := 4) (k := 3) dX4_arrive_70 rfl in_4 tyX4_ok nmX4 (Nat.le_of_ble_eq_true rfl) wd_411 rfl (Or.inl rfl) trivial m5 h2 ?_
  exact k
theorem BX4_arrive_73 {d bc bs : Nat} {h : aH} {n : Nat} {Q : aQ} {ar0 : Nat} {r1 t3 t5 : Option Nat} {x2 x3 x4 x5 : Int} {f1 : List aV} (h2 : h ar0 = cO 4 f1) (g4 : f1[1]? = some (vR t3)) (g6 : f1[2]? = some (vR t5)) (k : Rn d 0 0 mX12_copyRow 0 [some (vR t3), some (vR t5)] [] h n (fun v h1 n1 => Rn (d + 1) bc bs mX4_arrive 84 [some (vR (some ar0)), some (vR r1), some (vI x2), some (vI x3), some (vI x4), some (vI x5)] (v.toList ++ []) h1 n1 Q)) : Rn (d + 1) (bc) (bs) mX4_arrive 73 [some (vR (some ar0)), some (vR r1), some (vI x2), some (vI x3), some (vI x4), some (vI x5)] [] h n Q := by
  refine Rn_aload_n dX4_arrive_73 rfl rfl rfl ?_
  refine Rn_getfield (ci := 4) (k := 1) dX4_arrive_74 rfl in_4 (Nat.le_of_ble_eq_true rfl) wd_409 rfl h2 g4 ?_
  refine Rn_aload_n dX4_arrive_77 rfl rfl rfl ?_
  refine Rn_getfield (ci := 4) (k := 2) dX4_arrive_78 rfl in_4 (Nat.le_of_ble_eq_true rfl) wd_410 rfl h2 g6 ?_
  exact Rn_callS (avs := [vR t3, vR t5]) (st := []) (bc1 := 0) (bs1 := 0) (bc2 := bc) (bs2 := bs) fx_X12_copyRow dX4_arrive_81 (Or.inr ⟨"BottledPost", List.mem_of_getElem? (i := 21) rfl⟩) wd_802 rfl (Nat.le_of_ble_eq_true rfl) (Nat.le_of_ble_eq_true rfl) (by omega) (by omega) (ls1 := [some (vR t3), some (vR t5)]) rfl k
theorem BX4_arrive_84 {d bc bs : Nat} {h : aH} {n : Nat} {Q : aQ} {r0 r1 : Option Nat} {x2 x3 x4 x5 : Int} (k : Q none h n) : Rn d (bc) (bs) mX4_arrive 84 [some (vR r0), some (vR r1), some (vI x2), some (vI x3), some (vI x4), some (vI x5)] [] h n Q := by
  exact Rn_return rfl dX4_arrive_84 k
theorem dX5_init_0 : decode cX5_init 0 = .ok (.aload_n 0, 1) := by decide +kernel
theorem dX5_init_1 : decode cX5_init 1 = .ok (.invokespecial 3, 3) := by decide +kernel
theorem dX5_init_4 : decode cX5_init 4 = .ok (.aload_n 0, 1) := by decide +kernel
theorem dX5_init_5 : decode cX5_init 5 = .ok (.bipush 6, 2) := by decide +kernel
theorem dX5_init_7 : decode cX5_init 7 = .ok (.newarray .int, 2) := by decide +kernel
theorem dX5_init_9 : decode cX5_init 9 = .ok (.putfield 9, 3) := by decide +kernel
theorem dX5_init_12 : decode cX5_init 12 = .ok (.aload_n 0, 1) := by decide +kernel
theorem dX5_init_13 : decode cX5_init 13 = .ok (.bipush 6, 2) := by decide +kernel
theorem dX5_init_15 : decode cX5_init 15 = .ok (.newarray .int, 2) := by decide +kernel
theorem dX5_init_17 : decode cX5_init 17 = .ok (.putfield 15, 3) := by decide +kernel
theorem dX5_init_20 : decode cX5_init 20 = .ok (.aload_n 0, 1) := by decide +kernel
theorem dX5_init_21 : decode cX5_init 21 = .ok (.bipush 8, 2) := by decide +kernel
theorem dX5_init_23 : decode cX5_init 23 = .ok (.newarray .int, 2) := by decide +kernel
theorem dX5_init_25 : decode cX5_init 25 = .ok (.putfield 18, 3) := by decide +kernel
theorem dX5_init_28 : decode cX5_init 28 = .ok (.aload_n 0, 1) := by decide +kernel
theorem dX5_init_29 : decode cX5_init 29 = .ok (.bipush 8, 2) := by decide +kernel
theorem dX5_init_31 : decode cX5_init 31 = .ok (.newarray .int, 2) := by decide +kernel
theorem dX5_init_33 : decode cX5_init 33 = .ok (.putfield 21, 3) := by decide +kernel
theorem dX5_init_36 : decode cX5_init 36 = .ok (.aload_n 0, 1) := by decide +kernel
theorem dX5_init_37 : decode cX5_init 37 = .ok (.bipush 8, 2) := by decide +kernel
theorem dX5_init_39 : decode cX5_init 39 = .ok (.newarray .int, 2) := by decide +kernel
theorem dX5_init_41 : decode cX5_init 41 = .ok (.putfield 24, 3) := by decide +kernel
theorem dX5_init_44 : decode cX5_init 44 = .ok (.aload_n 0, 1) := by decide +kernel
theorem dX5_init_45 : decode cX5_init 45 = .ok (.bipush 8, 2) := by decide +kernel
theorem dX5_init_47 : decode cX5_init 47 = .ok (.newarray .int, 2) := by decide +kernel
theorem dX5_init_49 : decode cX5_init 49 = .ok (.putfield 27, 3) := by decide +kernel
theorem dX5_init_52 : decode cX5_init 52 = .ok (.aload_n 0, 1) := by decide +kernel
theorem dX5_init_53 : decode cX5_init 53 = .ok (.bipush 8, 2) := by decide +kernel
theorem dX5_init_55 : decode cX5_init 55 = .ok (.newarray .int, 2) := by decide +kernel
theorem dX5_init_57 : decode cX5_init 57 = .ok (.putfield 30, 3) := by decide +kernel
theorem dX5_init_60 : decode cX5_init 60 = .ok (.aload_n 0, 1) := by decide +kernel
theorem dX5_init_61 : decode cX5_init 61 = .ok (.iconst 0, 1) := by decide +kernel
theorem dX5_init_62 : decode cX5_init 62 = .ok (.putfield 33, 3) := by decide +kernel
theorem dX5_init_65 : decode cX5_init 65 = .ok (.aload_n 0, 1) := by decide +kernel
theorem dX5_init_66 : decode cX5_init 66 = .ok (.iconst 0, 1) := by decide +kernel
theorem dX5_init_67 : decode cX5_init 67 = .ok (.putfield 37, 3) := by decide +kernel
theorem dX5_init_70 : decode cX5_init 70 = .ok (.aload_n 0, 1) := by decide +kernel
theorem dX5_init_71 : decode cX5_init 71 = .ok (.iconst 0, 1) := by decide +kernel
theorem dX5_init_72 : decode cX5_init 72 = .ok (.putfield 40, 3) := by decide +kernel
theorem dX5_init_75 : decode cX5_init 75 = .ok (.aload_n 0, 1) := by decide +kernel
theorem dX5_init_76 : decode cX5_init 76 = .ok (.iconst 5, 1) := by decide +kernel
theorem dX5_init_77 : decode cX5_init 77 = .ok (.putfield 43, 3) := by decide +kernel
theorem dX5_init_80 : decode cX5_init 80 = .ok (.aload_n 0, 1) := by decide +kernel
theorem dX5_init_81 : decode cX5_init 81 = .ok (.iconst 1, 1) := by decide +kernel
theorem dX5_init_82 : decode cX5_init 82 = .ok (.putfield 46, 3) := by decide +kernel
theorem dX5_init_85 : decode cX5_init 85 = .ok (.return_, 1) := by decide +kernel
theorem BX5_init_0 {d bc bs : Nat} {h : aH} {n : Nat} {Q : aQ} {ar0 : Nat} (k : Rn (d + 1) bc bs mX5_init 9 [some (vR (some ar0))] [vR (some n), vR (some ar0)] (up h n (cI (List.replicate 6 0))) (n + 1) Q) : Rn (d + 1) (bc + 1) (bs + 6) mX5_init 0 [some (vR (some ar0))] [] h n Q := by
  refine Rn_aload_n dX5_init_0 rfl rfl rfl ?_
  refine Rn_objInit dX5_init_1 wd_246 wd_149 wd_150 (Nat.le_of_ble_eq_true rfl) ?_
  refine Rn_aload_n dX5_init_4 rfl rfl rfl ?_
  refine Rn_bipush dX5_init_5 rfl ?_
  refine Rn_newarrI (N := 6) (bc := bc) (bs := bs) (by omega) (by omega) wd_181 dX5_init_7 (by decide) ?_
  exact k
theorem BX5_init_9 {d bc bs : Nat} {h : aH} {n : Nat} {Q : aQ} {r0 q1 : Option Nat} {aq0 : Nat} {f1 : List aV} (h2 : h aq0 = cO 5 f1) (m3 : 0 < f1.length) (k : Rn d bc bs mX5_init 12 [some (vR r0)] [] (up h aq0 (cO 5 (f1.set 0 (vR q1)))) n Q) : Rn d (bc) (bs) mX5_init 9 [some (vR r0)] [vR q1, vR (some aq0)] h n Q := by
  refine Rn_putfield (ci := 5) (k := 0) dX5_init_9 rfl in_5 tyX5_ok nmX5 (Nat.le_of_ble_eq_true rfl) wd_247 rfl (Or.inr ⟨rfl, rfl⟩) trivial m3 h2 ?_
  exact k
theorem BX5_init_12 {d bc bs : Nat} {h : aH} {n : Nat} {Q : aQ} {r0 : Option Nat} (k : Rn d bc bs mX5_init 17 [some (vR r0)] [vR (some n), vR r0] (up h n (cI (List.replicate 6 0))) (n + 1) Q) : Rn d (bc + 1) (bs + 6) mX5_init 12 [some (vR r0)] [] h n Q := by
  refine Rn_aload_n dX5_init_12 rfl rfl rfl ?_
  refine Rn_bipush dX5_init_13 rfl ?_
  refine Rn_newarrI (N := 6) (bc := bc) (bs := bs) (by omega) (by omega) wd_181 dX5_init_15 (by decide) ?_
  exact k
theorem BX5_init_17 {d bc bs : Nat} {h : aH} {n : Nat} {Q : aQ} {r0 q1 : Option Nat} {aq0 : Nat} {f1 : List aV} (h2 : h aq0 = cO 5 f1) (m3 : 1 < f1.length) (k : Rn d bc bs mX5_init 20 [some (vR r0)] [] (up h aq0 (cO 5 (f1.set 1 (vR q1)))) n Q) : Rn d (bc) (bs) mX5_init 17 [some (vR r0)] [vR q1, vR (some aq0)] h n Q := by
  refine Rn_putfield (ci := 5) (k := 1) dX5_init_17 rfl in_5 tyX5_ok nmX5 (Nat.le_of_ble_eq_true rfl) wd_248 rfl (Or.inr ⟨rfl, rfl⟩) trivial m3 h2 ?_
  exact k
theorem BX5_init_20 {d bc bs : Nat} {h : aH} {n : Nat} {Q : aQ} {r0 : Option Nat} (k : Rn d bc bs mX5_init 25 [some (vR r0)] [vR (some n), vR r0] (up h n (cI (List.replicate 8 0))) (n + 1) Q) : Rn d (bc + 1) (bs + 8) mX5_init 20 [some (vR r0)] [] h n Q := by
  refine Rn_aload_n dX5_init_20 rfl rfl rfl ?_
  refine Rn_bipush dX5_init_21 rfl ?_
  refine Rn_newarrI (N := 8) (bc := bc) (bs := bs) (by omega) (by omega) wd_181 dX5_init_23 (by decide) ?_
  exact k
theorem BX5_init_25 {d bc bs : Nat} {h : aH} {n : Nat} {Q : aQ} {r0 q1 : Option Nat} {aq0 : Nat} {f1 : List aV} (h2 : h aq0 = cO 5 f1) (m3 : 2 < f1.length) (k : Rn d bc bs mX5_init 28 [some (vR r0)] [] (up h aq0 (cO 5 (f1.set 2 (vR q1)))) n Q) : Rn d (bc) (bs) mX5_init 25 [some (vR r0)] [vR q1, vR (some aq0)] h n Q := by
  refine Rn_putfield (ci := 5) (k := 2) dX5_init_25 rfl in_5 tyX5_ok nmX5 (Nat.le_of_ble_eq_true rfl) wd_249 rfl (Or.inr ⟨rfl, rfl⟩) trivial m3 h2 ?_
  exact k
theorem BX5_init_28 {d bc bs : Nat} {h : aH} {n : Nat} {Q : aQ} {r0 : Option Nat} (k : Rn d bc bs mX5_init 33 [some (vR r0)] [vR (some n), vR r0] (up h n (cI (List.replicate 8 0))) (n + 1) Q) : Rn d (bc + 1) (bs + 8) mX5_init 28 [some (vR r0)] [] h n Q := by
  refine Rn_aload_n dX5_init_28 rfl rfl rfl ?_
  refine Rn_bipush dX5_init_29 rfl ?_
  refine Rn_newarrI (N := 8) (bc := bc) (bs := bs) (by omega) (by omega) wd_181 dX5_init_31 (by decide) ?_
  exact k
theorem BX5_init_33 {d bc bs : Nat} {h : aH} {n : Nat} {Q : aQ} {r0 q1 : Option Nat} {aq0 : Nat} {f1 : List aV} (h2 : h aq0 = cO 5 f1) (m3 : 3 < f1.length) (k : Rn d bc bs mX5_init 36 [some (vR r0)] [] (up h aq0 (cO 5 (f1.set 3 (vR q1)))) n Q) : Rn d (bc) (bs) mX5_init 33 [some (vR r0)] [vR q1, vR (some aq0)] h n Q := by
  refine Rn_putfield (ci := 5) (k := 3) dX5_init_33 rfl in_5 tyX5_ok nmX5 (Nat.le_of_ble_eq_true rfl) wd_250 rfl (Or.inr ⟨rfl, rfl⟩) trivial m3 h2 ?_
  exact k
theorem BX5_init_36 {d bc bs : Nat} {h : aH} {n : Nat} {Q : aQ} {r0 : Option Nat} (k : Rn d bc bs mX5_init 41 [some (vR r0)] [vR (some n), vR r0] (up h n (cI (List.replicate 8 0))) (n + 1) Q) : Rn d (bc + 1) (bs + 8) mX5_init 36 [some (vR r0)] [] h n Q := by
  refine Rn_aload_n dX5_init_36 rfl rfl rfl ?_
  refine Rn_bipush dX5_init_37 rfl ?_
  refine Rn_newarrI (N := 8) (bc := bc) (bs := bs) (by omega) (by omega) wd_181 dX5_init_39 (by decide) ?_
  exact k
theorem BX5_init_41 {d bc bs : Nat} {h : aH} {n : Nat} {Q : aQ} {r0 q1 : Option Nat} {aq0 : Nat} {f1 : List aV} (h2 : h aq0 = cO 5 f1) (m3 : 4 < f1.length) (k : Rn d bc bs mX5_init 44 [some (vR r0)] [] (up h aq0 (cO 5 (f1.set 4 (vR q1)))) n Q) : Rn d (bc) (bs) mX5_init 41 [some (vR r0)] [vR q1, vR (some aq0)] h n Q := by
  refine Rn_putfield (ci := 5) (k := 4) dX5_init_41 rfl in_5 tyX5_ok nmX5 (Nat.le_of_ble_eq_true rfl) wd_251 rfl (Or.inr ⟨rfl, rfl⟩) trivial m3 h2 ?_
  exact k
theorem BX5_init_44 {d bc bs : Nat} {h : aH} {n : Nat} {Q : aQ} {r0 : Option Nat} (k : Rn d bc bs mX5_init 49 [some (vR r0)] [vR (some n), vR r0] (up h n (cI (List.replicate 8 0))) (n + 1) Q) : Rn d (bc + 1) (bs + 8) mX5_init 44 [some (vR r0)] [] h n Q := by
  refine Rn_aload_n dX5_init_44 rfl rfl rfl ?_
  refine Rn_bipush dX5_init_45 rfl ?_
  refine Rn_newarrI (N := 8) (bc := bc) (bs := bs) (by omega) (by omega) wd_181 dX5_init_47 (by decide) ?_
  exact k
theorem BX5_init_49 {d bc bs : Nat} {h : aH} {n : Nat} {Q : aQ} {r0 q1 : Option Nat} {aq0 : Nat} {f1 : List aV} (h2 : h aq0 = cO 5 f1) (m3 : 5 < f1.length) (k : Rn d bc bs mX5_init 52 [some (vR r0)] [] (up h aq0 (cO 5 (f1.set 5 (vR q1)))) n Q) : Rn d (bc) (bs) mX5_init 49 [some (vR r0)] [vR q1, vR (some aq0)] h n Q := by
  refine Rn_putfield (ci := 5) (k := 5) dX5_init_49 rfl in_5 tyX5_ok nmX5 (Nat.le_of_ble_eq_true rfl) wd_252 rfl (Or.inr ⟨rfl, rfl⟩) trivial m3 h2 ?_
  exact k
theorem BX5_init_52 {d bc bs : Nat} {h : aH} {n : Nat} {Q : aQ} {r0 : Option Nat} (k : Rn d bc bs mX5_init 57 [some (vR r0)] [vR (some n), vR r0] (up h n (cI (List.replicate 8 0))) (n + 1) Q) : Rn d (bc + 1) (bs + 8) mX5_init 52 [some (vR r0)] [] h n Q := by
  refine Rn_aload_n dX5_init_52 rfl rfl rfl ?_
  refine Rn_bipush dX5_init_53 rfl ?_
  refine Rn_newarrI (N := 8) (bc := bc) (bs := bs) (by omega) (by omega) wd_181 dX5_init_55 (by decide) ?_
  exact k
theorem BX5_init_57 {d bc bs : Nat} {h : aH} {n : Nat} {Q : aQ} {r0 q1 : Option Nat} {aq0 : Nat} {f1 : List aV} (h2 : h aq0 = cO 5 f1) (m3 : 6 < f1.length) (k : Rn d bc bs mX5_init 60 [some (vR r0)] [] (up h aq0 (cO 5 (f1.set 6 (vR q1)))) n Q) : Rn d (bc) (bs) mX5_init 57 [some (vR r0)] [vR q1, vR (some aq0)] h n Q := by
  refine Rn_putfield (ci := 5) (k := 6) dX5_init_57 rfl in_5 tyX5_ok nmX5 (Nat.le_of_ble_eq_true rfl) wd_253 rfl (Or.inr ⟨rfl, rfl⟩) trivial m3 h2 ?_
  exact k
theorem BX5_init_60 {d bc bs : Nat} {h : aH} {n : Nat} {Q : aQ} {ar0 : Nat} {f1 : List aV} (h2 : h ar0 = cO 5 f1) (m3 : 7 < f1.length) (k : Rn d bc bs mX5_init 65 [some (vR (some ar0))] [] (up h ar0 (cO 5 (f1.set 7 (vI 0)))) n Q) : Rn d (bc) (bs) mX5_init 60 [some (vR (some ar0))] [] h n Q := by
  refine Rn_aload_n dX5_init_60 rfl rfl rfl ?_
  refine Rn_iconst dX5_init_61 rfl ?_
  refine Rn_putfield (ci := 5) (k := 7) dX5_init_62 rfl in_5 tyX5_ok nmX5 (Nat.le_of_ble_eq_true rfl) wd_254 rfl (Or.inl rfl) trivial m3 h2 ?_
  exact k
theorem BX5_init_65 {d bc bs : Nat} {h : aH} {n : Nat} {Q : aQ} {ar0 : Nat} {f1 : List aV} (h2 : h ar0 = cO 5 f1) (m3 : 8 < f1.length) (k : Rn d bc bs mX5_init 70 [some (vR (some ar0))] [] (up h ar0 (cO 5 (f1.set 8 (vI 0)))) n Q) : Rn d (bc) (bs) mX5_init 65 [some (vR (some ar0))] [] h n Q := by
  refine Rn_aload_n dX5_init_65 rfl rfl rfl ?_
  refine Rn_iconst dX5_init_66 rfl ?_
  refine Rn_putfield (ci := 5) (k := 8) dX5_init_67 rfl in_5 tyX5_ok nmX5 (Nat.le_of_ble_eq_true rfl) wd_256 rfl (Or.inl rfl) trivial m3 h2 ?_
  exact k
theorem BX5_init_70 {d bc bs : Nat} {h : aH} {n : Nat} {Q : aQ} {ar0 : Nat} {f1 : List aV} (h2 : h ar0 = cO 5 f1) (m3 : 9 < f1.length) (k : Rn d bc bs mX5_init 75 [some (vR (some ar0))] [] (up h ar0 (cO 5 (f1.set 9 (vI 0)))) n Q) : Rn d (bc) (bs) mX5_init 70 [some (vR (some ar0))] [] h n Q := by
  refine Rn_aload_n dX5_init_70 rfl rfl rfl ?_
  refine Rn_iconst dX5_init_71 rfl ?_
  refine Rn_putfield (ci := 5) (k := 9) dX5_init_72 rfl in_5 tyX5_ok nmX5 (Nat.le_of_ble_eq_true rfl) wd_259 rfl (Or.inl rfl) trivial m3 h2 ?_
  exact k
theorem BX5_init_75 {d bc bs : Nat} {h : aH} {n : Nat} {Q : aQ} {ar0 : Nat} {f1 : List aV} (h2 : h ar0 = cO 5 f1) (m3 : 10 < f1.length) (k : Rn d bc bs mX5_init 80 [some (vR (some ar0))] [] (up h ar0 (cO 5 (f1.set 10 (vI 5)))) n Q) : Rn d (bc) (bs) mX5_init 75 [some (vR (some ar0))] [] h n Q := by
  refine Rn_aload_n dX5_init_75 rfl rfl rfl ?_
  refine Rn_iconst dX5_init_76 rfl ?_
  refine Rn_putfield (ci := 5) (k := 10) dX5_init_77 rfl in_5 tyX5_ok nmX5 (Nat.le_of_ble_eq_true rfl) wd_261 rfl (Or.inl rfl) trivial m3 h2 ?_
  exact k
theorem BX5_init_80 {d bc bs : Nat} {h : aH} {n : Nat} {Q : aQ} {ar0 : Nat} {f1 : List aV} (h2 : h ar0 = cO 5 f1) (m3 : 11 < f1.length) (k : Rn d bc bs mX5_init 85 [some (vR (some ar0))] [] (up h ar0 (cO 5 (f1.set 11 (vI 1)))) n Q) : Rn d (bc) (bs) mX5_init 80 [some (vR (some ar0))] [] h n Q := by
  refine Rn_aload_n dX5_init_80 rfl rfl rfl ?_
  refine Rn_iconst dX5_init_81 rfl ?_
  refine Rn_putfield (ci := 5) (k := 11) dX5_init_82 rfl in_5 tyX5_ok nmX5 (Nat.le_of_ble_eq_true rfl) wd_263 rfl (Or.inl rfl) trivial m3 h2 ?_
  exact k
theorem BX5_init_85 {d bc bs : Nat} {h : aH} {n : Nat} {Q : aQ} {r0 : Option Nat} (k : Q none h n) : Rn d (bc) (bs) mX5_init 85 [some (vR r0)] [] h n Q := by
  exact Rn_return rfl dX5_init_85 k
theorem dX5_copyFrom_0 : decode cX5_copyFrom 0 = .ok (.aload_n 1, 1) := by decide +kernel
theorem dX5_copyFrom_1 : decode cX5_copyFrom 1 = .ok (.getfield 9, 3) := by decide +kernel
theorem dX5_copyFrom_4 : decode cX5_copyFrom 4 = .ok (.aload_n 0, 1) := by decide +kernel
theorem dX5_copyFrom_5 : decode cX5_copyFrom 5 = .ok (.getfield 9, 3) := by decide +kernel
theorem dX5_copyFrom_8 : decode cX5_copyFrom 8 = .ok (.invokestatic 49, 3) := by decide +kernel
theorem dX5_copyFrom_11 : decode cX5_copyFrom 11 = .ok (.aload_n 1, 1) := by decide +kernel
theorem dX5_copyFrom_12 : decode cX5_copyFrom 12 = .ok (.getfield 15, 3) := by decide +kernel
theorem dX5_copyFrom_15 : decode cX5_copyFrom 15 = .ok (.aload_n 0, 1) := by decide +kernel
theorem dX5_copyFrom_16 : decode cX5_copyFrom 16 = .ok (.getfield 15, 3) := by decide +kernel
theorem dX5_copyFrom_19 : decode cX5_copyFrom 19 = .ok (.invokestatic 49, 3) := by decide +kernel
theorem dX5_copyFrom_22 : decode cX5_copyFrom 22 = .ok (.aload_n 1, 1) := by decide +kernel
theorem dX5_copyFrom_23 : decode cX5_copyFrom 23 = .ok (.getfield 18, 3) := by decide +kernel
theorem dX5_copyFrom_26 : decode cX5_copyFrom 26 = .ok (.aload_n 0, 1) := by decide +kernel
theorem dX5_copyFrom_27 : decode cX5_copyFrom 27 = .ok (.getfield 18, 3) := by decide +kernel
theorem dX5_copyFrom_30 : decode cX5_copyFrom 30 = .ok (.invokestatic 49, 3) := by decide +kernel
theorem dX5_copyFrom_33 : decode cX5_copyFrom 33 = .ok (.aload_n 1, 1) := by decide +kernel
theorem dX5_copyFrom_34 : decode cX5_copyFrom 34 = .ok (.getfield 21, 3) := by decide +kernel
theorem dX5_copyFrom_37 : decode cX5_copyFrom 37 = .ok (.aload_n 0, 1) := by decide +kernel
theorem dX5_copyFrom_38 : decode cX5_copyFrom 38 = .ok (.getfield 21, 3) := by decide +kernel
theorem dX5_copyFrom_41 : decode cX5_copyFrom 41 = .ok (.invokestatic 49, 3) := by decide +kernel
theorem dX5_copyFrom_44 : decode cX5_copyFrom 44 = .ok (.aload_n 1, 1) := by decide +kernel
theorem dX5_copyFrom_45 : decode cX5_copyFrom 45 = .ok (.getfield 24, 3) := by decide +kernel
theorem dX5_copyFrom_48 : decode cX5_copyFrom 48 = .ok (.aload_n 0, 1) := by decide +kernel
theorem dX5_copyFrom_49 : decode cX5_copyFrom 49 = .ok (.getfield 24, 3) := by decide +kernel
theorem dX5_copyFrom_52 : decode cX5_copyFrom 52 = .ok (.invokestatic 49, 3) := by decide +kernel
theorem dX5_copyFrom_55 : decode cX5_copyFrom 55 = .ok (.aload_n 1, 1) := by decide +kernel
theorem dX5_copyFrom_56 : decode cX5_copyFrom 56 = .ok (.getfield 27, 3) := by decide +kernel
theorem dX5_copyFrom_59 : decode cX5_copyFrom 59 = .ok (.aload_n 0, 1) := by decide +kernel
theorem dX5_copyFrom_60 : decode cX5_copyFrom 60 = .ok (.getfield 27, 3) := by decide +kernel
theorem dX5_copyFrom_63 : decode cX5_copyFrom 63 = .ok (.invokestatic 49, 3) := by decide +kernel
theorem dX5_copyFrom_66 : decode cX5_copyFrom 66 = .ok (.aload_n 1, 1) := by decide +kernel
theorem dX5_copyFrom_67 : decode cX5_copyFrom 67 = .ok (.getfield 30, 3) := by decide +kernel
theorem dX5_copyFrom_70 : decode cX5_copyFrom 70 = .ok (.aload_n 0, 1) := by decide +kernel
theorem dX5_copyFrom_71 : decode cX5_copyFrom 71 = .ok (.getfield 30, 3) := by decide +kernel
theorem dX5_copyFrom_74 : decode cX5_copyFrom 74 = .ok (.invokestatic 49, 3) := by decide +kernel
theorem dX5_copyFrom_77 : decode cX5_copyFrom 77 = .ok (.aload_n 0, 1) := by decide +kernel
theorem dX5_copyFrom_78 : decode cX5_copyFrom 78 = .ok (.aload_n 1, 1) := by decide +kernel
theorem dX5_copyFrom_79 : decode cX5_copyFrom 79 = .ok (.getfield 33, 3) := by decide +kernel
theorem dX5_copyFrom_82 : decode cX5_copyFrom 82 = .ok (.putfield 33, 3) := by decide +kernel
theorem dX5_copyFrom_85 : decode cX5_copyFrom 85 = .ok (.aload_n 0, 1) := by decide +kernel
theorem dX5_copyFrom_86 : decode cX5_copyFrom 86 = .ok (.aload_n 1, 1) := by decide +kernel
theorem dX5_copyFrom_87 : decode cX5_copyFrom 87 = .ok (.getfield 37, 3) := by decide +kernel
theorem dX5_copyFrom_90 : decode cX5_copyFrom 90 = .ok (.putfield 37, 3) := by decide +kernel
theorem dX5_copyFrom_93 : decode cX5_copyFrom 93 = .ok (.aload_n 0, 1) := by decide +kernel
theorem dX5_copyFrom_94 : decode cX5_copyFrom 94 = .ok (.aload_n 1, 1) := by decide +kernel
theorem dX5_copyFrom_95 : decode cX5_copyFrom 95 = .ok (.getfield 40, 3) := by decide +kernel
theorem dX5_copyFrom_98 : decode cX5_copyFrom 98 = .ok (.putfield 40, 3) := by decide +kernel
theorem dX5_copyFrom_101 : decode cX5_copyFrom 101 = .ok (.aload_n 0, 1) := by decide +kernel
theorem dX5_copyFrom_102 : decode cX5_copyFrom 102 = .ok (.aload_n 1, 1) := by decide +kernel
theorem dX5_copyFrom_103 : decode cX5_copyFrom 103 = .ok (.getfield 43, 3) := by decide +kernel
theorem dX5_copyFrom_106 : decode cX5_copyFrom 106 = .ok (.putfield 43, 3) := by decide +kernel
theorem dX5_copyFrom_109 : decode cX5_copyFrom 109 = .ok (.aload_n 0, 1) := by decide +kernel
theorem dX5_copyFrom_110 : decode cX5_copyFrom 110 = .ok (.aload_n 1, 1) := by decide +kernel
theorem dX5_copyFrom_111 : decode cX5_copyFrom 111 = .ok (.getfield 46, 3) := by decide +kernel
theorem dX5_copyFrom_114 : decode cX5_copyFrom 114 = .ok (.putfield 46, 3) := by decide +kernel
theorem dX5_copyFrom_117 : decode cX5_copyFrom 117 = .ok (.return_, 1) := by decide +kernel
theorem BX5_copyFrom_0 {d bc bs : Nat} {h : aH} {n : Nat} {Q : aQ} {ar0 ar1 : Nat} {f1 f5 : List aV} {t3 t7 : Option Nat} (h2 : h ar1 = cO 5 f1) (g4 : f1[0]? = some (vR t3)) (h6 : h ar0 = cO 5 f5) (g8 : f5[0]? = some (vR t7)) (k : Rn d 0 0 mX12_copyRow 0 [some (vR t3), some (vR t7)] [] h n (fun v h1 n1 => Rn (d + 1) bc bs mX5_copyFrom 11 [some (vR (some ar0)), some (vR (some ar1))] (v.toList ++ []) h1 n1 Q)) : Rn (d + 1) (bc) (bs) mX5_copyFrom 0 [some (vR (some ar0)), some (vR (some ar1))] [] h n Q := by
  refine Rn_aload_n dX5_copyFrom_0 rfl rfl rfl ?_
  refine Rn_getfield (ci := 5) (k := 0) dX5_copyFrom_1 rfl in_5 (Nat.le_of_ble_eq_true rfl) wd_247 rfl h2 g4 ?_
  refine Rn_aload_n dX5_copyFrom_4 rfl rfl rfl ?_
  refine Rn_getfield (ci := 5) (k := 0) dX5_copyFrom_5 rfl in_5 (Nat.le_of_ble_eq_true rfl) wd_247 rfl h6 g8 ?_
  exact Rn_callS (avs := [vR t3, vR t7]) (st := []) (bc1 := 0) (bs1 := 0) (bc2 := bc) (bs2 := bs) fx_X12_copyRow dX5_copyFrom_8 (Or.inr ⟨"BottledPost", List.mem_of_getElem? (i := 31) rfl⟩) wd_802 rfl (Nat.le_of_ble_eq_true rfl) (Nat.le_of_ble_eq_true rfl) (by omega) (by omega) (ls1 := [some (vR t3), some (vR t7)]) rfl k
theorem BX5_copyFrom_11 {d bc bs : Nat} {h : aH} {n : Nat} {Q : aQ} {ar0 ar1 : Nat} {f1 f5 : List aV} {t3 t7 : Option Nat} (h2 : h ar1 = cO 5 f1) (g4 : f1[1]? = some (vR t3)) (h6 : h ar0 = cO 5 f5) (g8 : f5[1]? = some (vR t7)) (k : Rn d 0 0 mX12_copyRow 0 [some (vR t3), some (vR t7)] [] h n (fun v h1 n1 => Rn (d + 1) bc bs mX5_copyFrom 22 [some (vR (some ar0)), some (vR (some ar1))] (v.toList ++ []) h1 n1 Q)) : Rn (d + 1) (bc) (bs) mX5_copyFrom 11 [some (vR (some ar0)), some (vR (some ar1))] [] h n Q := by
  refine Rn_aload_n dX5_copyFrom_11 rfl rfl rfl ?_
  refine Rn_getfield (ci := 5) (k := 1) dX5_copyFrom_12 rfl in_5 (Nat.le_of_ble_eq_true rfl) wd_248 rfl h2 g4 ?_
  refine Rn_aload_n dX5_copyFrom_15 rfl rfl rfl ?_
  refine Rn_getfield (ci := 5) (k := 1) dX5_copyFrom_16 rfl in_5 (Nat.le_of_ble_eq_true rfl) wd_248 rfl h6 g8 ?_
  exact Rn_callS (avs := [vR t3, vR t7]) (st := []) (bc1 := 0) (bs1 := 0) (bc2 := bc) (bs2 := bs) fx_X12_copyRow dX5_copyFrom_19 (Or.inr ⟨"BottledPost", List.mem_of_getElem? (i := 31) rfl⟩) wd_802 rfl (Nat.le_of_ble_eq_true rfl) (Nat.le_of_ble_eq_true rfl) (by omega) (by omega) (ls1 := [some (vR t3), some (vR t7)]) rfl k
theorem BX5_copyFrom_22 {d bc bs : Nat} {h : aH} {n : Nat} {Q : aQ} {ar0 ar1 : Nat} {f1 f5 : List aV} {t3 t7 : Option Nat} (h2 : h ar1 = cO 5 f1) (g4 : f1[2]? = some (vR t3)) (h6 : h ar0 = cO 5 f5) (g8 : f5[2]? = some (vR t7)) (k : Rn d 0 0 mX12_copyRow 0 [some (vR t3), some (vR t7)] [] h n (fun v h1 n1 => Rn (d + 1) bc bs mX5_copyFrom 33 [some (vR (some ar0)), some (vR (some ar1))] (v.toList ++ []) h1 n1 Q)) : Rn (d + 1) (bc) (bs) mX5_copyFrom 22 [some (vR (some ar0)), some (vR (some ar1))] [] h n Q := by
  refine Rn_aload_n dX5_copyFrom_22 rfl rfl rfl ?_
  refine Rn_getfield (ci := 5) (k := 2) dX5_copyFrom_23 rfl in_5 (Nat.le_of_ble_eq_true rfl) wd_249 rfl h2 g4 ?_
  refine Rn_aload_n dX5_copyFrom_26 rfl rfl rfl ?_
  refine Rn_getfield (ci := 5) (k := 2) dX5_copyFrom_27 rfl in_5 (Nat.le_of_ble_eq_true rfl) wd_249 rfl h6 g8 ?_
  exact Rn_callS (avs := [vR t3, vR t7]) (st := []) (bc1 := 0) (bs1 := 0) (bc2 := bc) (bs2 := bs) fx_X12_copyRow dX5_copyFrom_30 (Or.inr ⟨"BottledPost", List.mem_of_getElem? (i := 31) rfl⟩) wd_802 rfl (Nat.le_of_ble_eq_true rfl) (Nat.le_of_ble_eq_true rfl) (by omega) (by omega) (ls1 := [some (vR t3), some (vR t7)]) rfl k
theorem BX5_copyFrom_33 {d bc bs : Nat} {h : aH} {n : Nat} {Q : aQ} {ar0 ar1 : Nat} {f1 f5 : List aV} {t3 t7 : Option Nat} (h2 : h ar1 = cO 5 f1) (g4 : f1[3]? = some (vR t3)) (h6 : h ar0 = cO 5 f5) (g8 : f5[3]? = some (vR t7)) (k : Rn d 0 0 mX12_copyRow 0 [some (vR t3), some (vR t7)] [] h n (fun v h1 n1 => Rn (d + 1) bc bs mX5_copyFrom 44 [some (vR (some ar0)), some (vR (some ar1))] (v.toList ++ []) h1 n1 Q)) : Rn (d + 1) (bc) (bs) mX5_copyFrom 33 [some (vR (some ar0)), some (vR (some ar1))] [] h n Q := by
  refine Rn_aload_n dX5_copyFrom_33 rfl rfl rfl ?_
  refine Rn_getfield (ci := 5) (k := 3) dX5_copyFrom_34 rfl in_5 (Nat.le_of_ble_eq_true rfl) wd_250 rfl h2 g4 ?_
  refine Rn_aload_n dX5_copyFrom_37 rfl rfl rfl ?_
  refine Rn_getfield (ci := 5) (k := 3) dX5_copyFrom_38 rfl in_5 (Nat.le_of_ble_eq_true rfl) wd_250 rfl h6 g8 ?_
  exact Rn_callS (avs := [vR t3, vR t7]) (st := []) (bc1 := 0) (bs1 := 0) (bc2 := bc) (bs2 := bs) fx_X12_copyRow dX5_copyFrom_41 (Or.inr ⟨"BottledPost", List.mem_of_getElem? (i := 31) rfl⟩) wd_802 rfl (Nat.le_of_ble_eq_true rfl) (Nat.le_of_ble_eq_true rfl) (by omega) (by omega) (ls1 := [some (vR t3), some (vR t7)]) rfl k
theorem BX5_copyFrom_44 {d bc bs : Nat} {h : aH} {n : Nat} {Q : aQ} {ar0 ar1 : Nat} {f1 f5 : List aV} {t3 t7 : Option Nat} (h2 : h ar1 = cO 5 f1) (g4 : f1[4]? = some (vR t3)) (h6 : h ar0 = cO 5 f5) (g8 : f5[4]? = some (vR t7)) (k : Rn d 0 0 mX12_copyRow 0 [some (vR t3), some (vR t7)] [] h n (fun v h1 n1 => Rn (d + 1) bc bs mX5_copyFrom 55 [some (vR (some ar0)), some (vR (some ar1))] (v.toList ++ []) h1 n1 Q)) : Rn (d + 1) (bc) (bs) mX5_copyFrom 44 [some (vR (some ar0)), some (vR (some ar1))] [] h n Q := by
  refine Rn_aload_n dX5_copyFrom_44 rfl rfl rfl ?_
  refine Rn_getfield (ci := 5) (k := 4) dX5_copyFrom_45 rfl in_5 (Nat.le_of_ble_eq_true rfl) wd_251 rfl h2 g4 ?_
  refine Rn_aload_n dX5_copyFrom_48 rfl rfl rfl ?_
  refine Rn_getfield (ci := 5) (k := 4) dX5_copyFrom_49 rfl in_5 (Nat.le_of_ble_eq_true rfl) wd_251 rfl h6 g8 ?_
  exact Rn_callS (avs := [vR t3, vR t7]) (st := []) (bc1 := 0) (bs1 := 0) (bc2 := bc) (bs2 := bs) fx_X12_copyRow dX5_copyFrom_52 (Or.inr ⟨"BottledPost", List.mem_of_getElem? (i := 31) rfl⟩) wd_802 rfl (Nat.le_of_ble_eq_true rfl) (Nat.le_of_ble_eq_true rfl) (by omega) (by omega) (ls1 := [some (vR t3), some (vR t7)]) rfl k
theorem BX5_copyFrom_55 {d bc bs : Nat} {h : aH} {n : Nat} {Q : aQ} {ar0 ar1 : Nat} {f1 f5 : List aV} {t3 t7 : Option Nat} (h2 : h ar1 = cO 5 f1) (g4 : f1[5]? = some (vR t3)) (h6 : h ar0 = cO 5 f5) (g8 : f5[5]? = some (vR t7)) (k : Rn d 0 0 mX12_copyRow 0 [some (vR t3), some (vR t7)] [] h n (fun v h1 n1 => Rn (d + 1) bc bs mX5_copyFrom 66 [some (vR (some ar0)), some (vR (some ar1))] (v.toList ++ []) h1 n1 Q)) : Rn (d + 1) (bc) (bs) mX5_copyFrom 55 [some (vR (some ar0)), some (vR (some ar1))] [] h n Q := by
  refine Rn_aload_n dX5_copyFrom_55 rfl rfl rfl ?_
  refine Rn_getfield (ci := 5) (k := 5) dX5_copyFrom_56 rfl in_5 (Nat.le_of_ble_eq_true rfl) wd_252 rfl h2 g4 ?_
  refine Rn_aload_n dX5_copyFrom_59 rfl rfl rfl ?_
  refine Rn_getfield (ci := 5) (k := 5) dX5_copyFrom_60 rfl in_5 (Nat.le_of_ble_eq_true rfl) wd_252 rfl h6 g8 ?_
  exact Rn_callS (avs := [vR t3, vR t7]) (st := []) (bc1 := 0) (bs1 := 0) (bc2 := bc) (bs2 := bs) fx_X12_copyRow dX5_copyFrom_63 (Or.inr ⟨"BottledPost", List.mem_of_getElem? (i := 31) rfl⟩) wd_802 rfl (Nat.le_of_ble_eq_true rfl) (Nat.le_of_ble_eq_true rfl) (by omega) (by omega) (ls1 := [some (vR t3), some (vR t7)]) rfl k
theorem BX5_copyFrom_66 {d bc bs : Nat} {h : aH} {n : Nat} {Q : aQ} {ar0 ar1 : Nat} {f1 f5 : List aV} {t3 t7 : Option Nat} (h2 : h ar1 = cO 5 f1) (g4 : f1[6]? = some (vR t3)) (h6 : h ar0 = cO 5 f5) (g8 : f5[6]? = some (vR t7)) (k : Rn d 0 0 mX12_copyRow 0 [some (vR t3), some (vR t7)] [] h n (fun v h1 n1 => Rn (d + 1) bc bs mX5_copyFrom 77 [some (vR (some ar0)), some (vR (some ar1))] (v.toList ++ []) h1 n1 Q)) : Rn (d + 1) (bc) (bs) mX5_copyFrom 66 [some (vR (some ar0)), some (vR (some ar1))] [] h n Q := by
  refine Rn_aload_n dX5_copyFrom_66 rfl rfl rfl ?_
  refine Rn_getfield (ci := 5) (k := 6) dX5_copyFrom_67 rfl in_5 (Nat.le_of_ble_eq_true rfl) wd_253 rfl h2 g4 ?_
  refine Rn_aload_n dX5_copyFrom_70 rfl rfl rfl ?_
  refine Rn_getfield (ci := 5) (k := 6) dX5_copyFrom_71 rfl in_5 (Nat.le_of_ble_eq_true rfl) wd_253 rfl h6 g8 ?_
  exact Rn_callS (avs := [vR t3, vR t7]) (st := []) (bc1 := 0) (bs1 := 0) (bc2 := bc) (bs2 := bs) fx_X12_copyRow dX5_copyFrom_74 (Or.inr ⟨"BottledPost", List.mem_of_getElem? (i := 31) rfl⟩) wd_802 rfl (Nat.le_of_ble_eq_true rfl) (Nat.le_of_ble_eq_true rfl) (by omega) (by omega) (ls1 := [some (vR t3), some (vR t7)]) rfl k
theorem BX5_copyFrom_77 {d bc bs : Nat} {h : aH} {n : Nat} {Q : aQ} {ar0 ar1 : Nat} {f1 f5 : List aV} {v3 : Int} (h2 : h ar1 = cO 5 f1) (g4 : f1[7]? = some (vI v3)) (h6 : h ar0 = cO 5 f5) (m7 : 7 < f5.length) (k : Rn d bc bs mX5_copyFrom 85 [some (vR (some ar0)), some (vR (some ar1))] [] (up h ar0 (cO 5 (f5.set 7 (vI v3)))) n Q) : Rn d (bc) (bs) mX5_copyFrom 77 [some (vR (some ar0)), some (vR (some ar1))] [] h n Q := by
  refine Rn_aload_n dX5_copyFrom_77 rfl rfl rfl ?_
  refine Rn_aload_n dX5_copyFrom_78 rfl rfl rfl ?_
  refine Rn_getfield (ci := 5) (k := 7) dX5_copyFrom_79 rfl in_5 (Nat.le_of_ble_eq_true rfl) wd_254 rfl h2 g4 ?_
  refine Rn_putfield (ci := 5) (k := 7) dX5_copyFrom_82 rfl in_5 tyX5_ok nmX5 (Nat.le_of_ble_eq_true rfl) wd_254 rfl (Or.inl rfl) trivial m7 h6 ?_
  exact k
theorem BX5_copyFrom_85 {d bc bs : Nat} {h : aH} {n : Nat} {Q : aQ} {ar0 ar1 : Nat} {f1 f5 : List aV} {v3 : Int} (h2 : h ar1 = cO 5 f1) (g4 : f1[8]? = some (vI v3)) (h6 : h ar0 = cO 5 f5) (m7 : 8 < f5.length) (k : Rn d bc bs mX5_copyFrom 93 [some (vR (some ar0)), some (vR (some ar1))] [] (up h ar0 (cO 5 (f5.set 8 (vI v3)))) n Q) : Rn d (bc) (bs) mX5_copyFrom 85 [some (vR (some ar0)), some (vR (some ar1))] [] h n Q := by
  refine Rn_aload_n dX5_copyFrom_85 rfl rfl rfl ?_
  refine Rn_aload_n dX5_copyFrom_86 rfl rfl rfl ?_
  refine Rn_getfield (ci := 5) (k := 8) dX5_copyFrom_87 rfl in_5 (Nat.le_of_ble_eq_true rfl) wd_256 rfl h2 g4 ?_
  refine Rn_putfield (ci := 5) (k := 8) dX5_copyFrom_90 rfl in_5 tyX5_ok nmX5 (Nat.le_of_ble_eq_true rfl) wd_256 rfl (Or.inl rfl) trivial m7 h6 ?_
  exact k
theorem BX5_copyFrom_93 {d bc bs : Nat} {h : aH} {n : Nat} {Q : aQ} {ar0 ar1 : Nat} {f1 f5 : List aV} {v3 : Int} (h2 : h ar1 = cO 5 f1) (g4 : f1[9]? = some (vI v3)) (h6 : h ar0 = cO 5 f5) (m7 : 9 < f5.length) (k : Rn d bc bs mX5_copyFrom 101 [some (vR (some ar0)), some (vR (some ar1))] [] (up h ar0 (cO 5 (f5.set 9 (vI v3)))) n Q) : Rn d (bc) (bs) mX5_copyFrom 93 [some (vR (some ar0)), some (vR (some ar1))] [] h n Q := by
  refine Rn_aload_n dX5_copyFrom_93 rfl rfl rfl ?_
  refine Rn_aload_n dX5_copyFrom_94 rfl rfl rfl ?_
  refine Rn_getfield (ci := 5) (k := 9) dX5_copyFrom_95 rfl in_5 (Nat.le_of_ble_eq_true rfl) wd_259 rfl h2 g4 ?_
  refine Rn_putfield (ci := 5) (k := 9) dX5_copyFrom_98 rfl in_5 tyX5_ok nmX5 (Nat.le_of_ble_eq_true rfl) wd_259 rfl (Or.inl rfl) trivial m7 h6 ?_
  exact k
theorem BX5_copyFrom_101 {d bc bs : Nat} {h : aH} {n : Nat} {Q : aQ} {ar0 ar1 : Nat} {f1 f5 : List aV} {v3 : Int} (h2 : h ar1 = cO 5 f1) (g4 : f1[10]? = some (vI v3)) (h6 : h ar0 = cO 5 f5) (m7 : 10 < f5.length) (k : Rn d bc bs mX5_copyFrom 109 [some (vR (some ar0)), some (vR (some ar1))] [] (up h ar0 (cO 5 (f5.set 10 (vI v3)))) n Q) : Rn d (bc) (bs) mX5_copyFrom 101 [some (vR (some ar0)), some (vR (some ar1))] [] h n Q := by
  refine Rn_aload_n dX5_copyFrom_101 rfl rfl rfl ?_
  refine Rn_aload_n dX5_copyFrom_102 rfl rfl rfl ?_
  refine Rn_getfield (ci := 5) (k := 10) dX5_copyFrom_103 rfl in_5 (Nat.le_of_ble_eq_true rfl) wd_261 rfl h2 g4 ?_
  refine Rn_putfield (ci := 5) (k := 10) dX5_copyFrom_106 rfl in_5 tyX5_ok nmX5 (Nat.le_of_ble_eq_true rfl) wd_261 rfl (Or.inl rfl) trivial m7 h6 ?_
  exact k
theorem BX5_copyFrom_109 {d bc bs : Nat} {h : aH} {n : Nat} {Q : aQ} {ar0 ar1 : Nat} {f1 f5 : List aV} {v3 : Int} (h2 : h ar1 = cO 5 f1) (g4 : f1[11]? = some (vI v3)) (h6 : h ar0 = cO 5 f5) (m7 : 11 < f5.length) (k : Rn d bc bs mX5_copyFrom 117 [some (vR (some ar0)), some (vR (some ar1))] [] (up h ar0 (cO 5 (f5.set 11 (vI v3)))) n Q) : Rn d (bc) (bs) mX5_copyFrom 109 [some (vR (some ar0)), some (vR (some ar1))] [] h n Q := by
  refine Rn_aload_n dX5_copyFrom_109 rfl rfl rfl ?_
  refine Rn_aload_n dX5_copyFrom_110 rfl rfl rfl ?_
  refine Rn_getfield (ci := 5) (k := 11) dX5_copyFrom_111 rfl in_5 (Nat.le_of_ble_eq_true rfl) wd_263 rfl h2 g4 ?_
  refine Rn_putfield (ci := 5) (k := 11) dX5_copyFrom_114 rfl in_5 tyX5_ok nmX5 (Nat.le_of_ble_eq_true rfl) wd_263 rfl (Or.inl rfl) trivial m7 h6 ?_
  exact k
theorem BX5_copyFrom_117 {d bc bs : Nat} {h : aH} {n : Nat} {Q : aQ} {r0 r1 : Option Nat} (k : Q none h n) : Rn d (bc) (bs) mX5_copyFrom 117 [some (vR r0), some (vR r1)] [] h n Q := by
  exact Rn_return rfl dX5_copyFrom_117 k
theorem dX5_forgetFound_0 : decode cX5_forgetFound 0 = .ok (.aload_n 0, 1) := by decide +kernel
theorem dX5_forgetFound_1 : decode cX5_forgetFound 1 = .ok (.iconst 0, 1) := by decide +kernel
theorem dX5_forgetFound_2 : decode cX5_forgetFound 2 = .ok (.putfield 33, 3) := by decide +kernel
theorem dX5_forgetFound_5 : decode cX5_forgetFound 5 = .ok (.aload_n 0, 1) := by decide +kernel
theorem dX5_forgetFound_6 : decode cX5_forgetFound 6 = .ok (.getfield 33, 3) := by decide +kernel
theorem dX5_forgetFound_9 : decode cX5_forgetFound 9 = .ok (.ireturn, 1) := by decide +kernel
theorem BX5_forgetFound_0 {d bc bs : Nat} {h : aH} {n : Nat} {Q : aQ} {ar0 : Nat} {f1 : List aV} (h2 : h ar0 = cO 5 f1) (m3 : 7 < f1.length) (k : Rn d bc bs mX5_forgetFound 5 [some (vR (some ar0))] [] (up h ar0 (cO 5 (f1.set 7 (vI 0)))) n Q) : Rn d (bc) (bs) mX5_forgetFound 0 [some (vR (some ar0))] [] h n Q := by
  refine Rn_aload_n dX5_forgetFound_0 rfl rfl rfl ?_
  refine Rn_iconst dX5_forgetFound_1 rfl ?_
  refine Rn_putfield (ci := 5) (k := 7) dX5_forgetFound_2 rfl in_5 tyX5_ok nmX5 (Nat.le_of_ble_eq_true rfl) wd_254 rfl (Or.inl rfl) trivial m3 h2 ?_
  exact k
theorem BX5_forgetFound_5 {d bc bs : Nat} {h : aH} {n : Nat} {Q : aQ} {ar0 : Nat} {f1 : List aV} {v3 : Int} (h2 : h ar0 = cO 5 f1) (g4 : f1[7]? = some (vI v3)) (k : Q (some (vI v3)) h n) : Rn d (bc) (bs) mX5_forgetFound 5 [some (vR (some ar0))] [] h n Q := by
  refine Rn_aload_n dX5_forgetFound_5 rfl rfl rfl ?_
  refine Rn_getfield (ci := 5) (k := 7) dX5_forgetFound_6 rfl in_5 (Nat.le_of_ble_eq_true rfl) wd_254 rfl h2 g4 ?_
  exact Rn_ireturn rfl dX5_forgetFound_9 k
theorem dX5_addFound_0 : decode cX5_addFound 0 = .ok (.aload_n 0, 1) := by decide +kernel
theorem dX5_addFound_1 : decode cX5_addFound 1 = .ok (.getfield 33, 3) := by decide +kernel
theorem dX5_addFound_4 : decode cX5_addFound 4 = .ok (.bipush 6, 2) := by decide +kernel
theorem dX5_addFound_6 : decode cX5_addFound 6 = .ok (.if_icmp .lt 6, 3) := by decide +kernel
theorem dX5_addFound_9 : decode cX5_addFound 9 = .ok (.bipush (-2), 2) := by decide +kernel
theorem dX5_addFound_11 : decode cX5_addFound 11 = .ok (.ireturn, 1) := by decide +kernel
theorem dX5_addFound_12 : decode cX5_addFound 12 = .ok (.aload_n 0, 1) := by decide +kernel
theorem dX5_addFound_13 : decode cX5_addFound 13 = .ok (.getfield 9, 3) := by decide +kernel
theorem dX5_addFound_16 : decode cX5_addFound 16 = .ok (.aload_n 0, 1) := by decide +kernel
theorem dX5_addFound_17 : decode cX5_addFound 17 = .ok (.getfield 33, 3) := by decide +kernel
theorem dX5_addFound_20 : decode cX5_addFound 20 = .ok (.iload_n 1, 1) := by decide +kernel
theorem dX5_addFound_21 : decode cX5_addFound 21 = .ok (.invokestatic 53, 3) := by decide +kernel
theorem dX5_addFound_24 : decode cX5_addFound 24 = .ok (.aload_n 0, 1) := by decide +kernel
theorem dX5_addFound_25 : decode cX5_addFound 25 = .ok (.getfield 15, 3) := by decide +kernel
theorem dX5_addFound_28 : decode cX5_addFound 28 = .ok (.aload_n 0, 1) := by decide +kernel
theorem dX5_addFound_29 : decode cX5_addFound 29 = .ok (.getfield 33, 3) := by decide +kernel
theorem dX5_addFound_32 : decode cX5_addFound 32 = .ok (.iload_n 2, 1) := by decide +kernel
theorem dX5_addFound_33 : decode cX5_addFound 33 = .ok (.invokestatic 53, 3) := by decide +kernel
theorem dX5_addFound_36 : decode cX5_addFound 36 = .ok (.aload_n 0, 1) := by decide +kernel
theorem dX5_addFound_37 : decode cX5_addFound 37 = .ok (.dup, 1) := by decide +kernel
theorem dX5_addFound_38 : decode cX5_addFound 38 = .ok (.getfield 33, 3) := by decide +kernel
theorem dX5_addFound_41 : decode cX5_addFound 41 = .ok (.iconst 1, 1) := by decide +kernel
theorem dX5_addFound_42 : decode cX5_addFound 42 = .ok (.iadd, 1) := by decide +kernel
theorem dX5_addFound_43 : decode cX5_addFound 43 = .ok (.putfield 33, 3) := by decide +kernel
theorem dX5_addFound_46 : decode cX5_addFound 46 = .ok (.aload_n 0, 1) := by decide +kernel
theorem dX5_addFound_47 : decode cX5_addFound 47 = .ok (.getfield 33, 3) := by decide +kernel
theorem dX5_addFound_50 : decode cX5_addFound 50 = .ok (.ireturn, 1) := by decide +kernel
theorem BX5_addFound_0 {d bc bs : Nat} {h : aH} {n : Nat} {Q : aQ} {ar0 : Nat} {x1 x2 v3 : Int} {f1 : List aV} (h2 : h ar0 = cO 5 f1) (g4 : f1[7]? = some (vI v3)) (kt : v3 < 6 → Rn d bc bs mX5_addFound 12 [some (vR (some ar0)), some (vI x1), some (vI x2)] [] h n Q) (kf : 6 ≤ v3 → Rn d bc bs mX5_addFound 9 [some (vR (some ar0)), some (vI x1), some (vI x2)] [] h n Q) : Rn d (bc) (bs) mX5_addFound 0 [some (vR (some ar0)), some (vI x1), some (vI x2)] [] h n Q := by
  refine Rn_aload_n dX5_addFound_0 rfl rfl rfl ?_
  refine Rn_getfield (ci := 5) (k := 7) dX5_addFound_1 rfl in_5 (Nat.le_of_ble_eq_true rfl) wd_254 rfl h2 g4 ?_
  refine Rn_bipush dX5_addFound_4 rfl ?_
  refine Rn_icmplt (tgt := 12) dX5_addFound_6 rfl ?_ ?_
  · exact kt
  · exact kf
theorem BX5_addFound_9 {d bc bs : Nat} {h : aH} {n : Nat} {Q : aQ} {r0 : Option Nat} {x1 x2 : Int} (k : Q (some (vI (-2))) h n) : Rn d (bc) (bs) mX5_addFound 9 [some (vR r0), some (vI x1), some (vI x2)] [] h n Q := by
  refine Rn_bipush dX5_addFound_9 rfl ?_
  exact Rn_ireturn rfl dX5_addFound_11 k
theorem BX5_addFound_12 {d bc bs : Nat} {h : aH} {n : Nat} {Q : aQ} {ar0 : Nat} {x1 x2 v5 : Int} {f1 : List aV} {t3 : Option Nat} (h2 : h ar0 = cO 5 f1) (g4 : f1[0]? = some (vR t3)) (g6 : f1[7]? = some (vI v5)) (k : Rn d 0 0 mX12_setCell 0 [some (vR t3), some (vI v5), some (vI x1)] [] h n (fun v h1 n1 => Rn (d + 1) bc bs mX5_addFound 24 [some (vR (some ar0)), some (vI x1), some (vI x2)] (v.toList ++ []) h1 n1 Q)) : Rn (d + 1) (bc) (bs) mX5_addFound 12 [some (vR (some ar0)), some (vI x1), some (vI x2)] [] h n Q := by
  refine Rn_aload_n dX5_addFound_12 rfl rfl rfl ?_
  refine Rn_getfield (ci := 5) (k := 0) dX5_addFound_13 rfl in_5 (Nat.le_of_ble_eq_true rfl) wd_247 rfl h2 g4 ?_
  refine Rn_aload_n dX5_addFound_16 rfl rfl rfl ?_
  refine Rn_getfield (ci := 5) (k := 7) dX5_addFound_17 rfl in_5 (Nat.le_of_ble_eq_true rfl) wd_254 rfl h2 g6 ?_
  refine Rn_iload_n dX5_addFound_20 rfl rfl ?_
  exact Rn_callS (avs := [vR t3, vI v5, vI x1]) (st := []) (bc1 := 0) (bs1 := 0) (bc2 := bc) (bs2 := bs) fx_X12_setCell dX5_addFound_21 (Or.inr ⟨"BottledPost", List.mem_of_getElem? (i := 24) rfl⟩) wd_164 rfl (Nat.le_of_ble_eq_true rfl) (Nat.le_of_ble_eq_true rfl) (by omega) (by omega) (ls1 := [some (vR t3), some (vI v5), some (vI x1)]) rfl k
theorem BX5_addFound_24 {d bc bs : Nat} {h : aH} {n : Nat} {Q : aQ} {ar0 : Nat} {x1 x2 v5 : Int} {f1 : List aV} {t3 : Option Nat} (h2 : h ar0 = cO 5 f1) (g4 : f1[1]? = some (vR t3)) (g6 : f1[7]? = some (vI v5)) (k : Rn d 0 0 mX12_setCell 0 [some (vR t3), some (vI v5), some (vI x2)] [] h n (fun v h1 n1 => Rn (d + 1) bc bs mX5_addFound 36 [some (vR (some ar0)), some (vI x1), some (vI x2)] (v.toList ++ []) h1 n1 Q)) : Rn (d + 1) (bc) (bs) mX5_addFound 24 [some (vR (some ar0)), some (vI x1), some (vI x2)] [] h n Q := by
  refine Rn_aload_n dX5_addFound_24 rfl rfl rfl ?_
  refine Rn_getfield (ci := 5) (k := 1) dX5_addFound_25 rfl in_5 (Nat.le_of_ble_eq_true rfl) wd_248 rfl h2 g4 ?_
  refine Rn_aload_n dX5_addFound_28 rfl rfl rfl ?_
  refine Rn_getfield (ci := 5) (k := 7) dX5_addFound_29 rfl in_5 (Nat.le_of_ble_eq_true rfl) wd_254 rfl h2 g6 ?_
  refine Rn_iload_n dX5_addFound_32 rfl rfl ?_
  exact Rn_callS (avs := [vR t3, vI v5, vI x2]) (st := []) (bc1 := 0) (bs1 := 0) (bc2 := bc) (bs2 := bs) fx_X12_setCell dX5_addFound_33 (Or.inr ⟨"BottledPost", List.mem_of_getElem? (i := 24) rfl⟩) wd_164 rfl (Nat.le_of_ble_eq_true rfl) (Nat.le_of_ble_eq_true rfl) (by omega) (by omega) (ls1 := [some (vR t3), some (vI v5), some (vI x2)]) rfl k
theorem BX5_addFound_36 {d bc bs : Nat} {h : aH} {n : Nat} {Q : aQ} {ar0 : Nat} {x1 x2 v3 : Int} {f1 : List aV} (h2 : h ar0 = cO 5 f1) (g4 : f1[7]? = some (vI v3)) (b5 : -2147483648 ≤ v3 + 1 ∧ v3 + 1 < 2147483648) (m6 : 7 < f1.length) (k : Rn d bc bs mX5_addFound 46 [some (vR (some ar0)), some (vI x1), some (vI x2)] [] (up h ar0 (cO 5 (f1.set 7 (vI (v3 + 1))))) n Q) : Rn d (bc) (bs) mX5_addFound 36 [some (vR (some ar0)), some (vI x1), some (vI x2)] [] h n Q := by
  refine Rn_aload_n dX5_addFound_36 rfl rfl rfl ?_
  refine Rn_dup dX5_addFound_37 rfl ?_
  refine Rn_getfield (ci := 5) (k := 7) dX5_addFound_38 rfl in_5 (Nat.le_of_ble_eq_true rfl) wd_254 rfl h2 g4 ?_
  refine Rn_iconst dX5_addFound_41 rfl ?_
  refine Rn_iadd dX5_addFound_42 ?_
  rw [w32_id b5.1 b5.2]
  refine Rn_putfield (ci := 5) (k := 7) dX5_addFound_43 rfl in_5 tyX5_ok nmX5 (Nat.le_of_ble_eq_true rfl) wd_254 rfl (Or.inl rfl) trivial m6 h2 ?_
  exact k
theorem BX5_addFound_46 {d bc bs : Nat} {h : aH} {n : Nat} {Q : aQ} {ar0 : Nat} {x1 x2 v3 : Int} {f1 : List aV} (h2 : h ar0 = cO 5 f1) (g4 : f1[7]? = some (vI v3)) (k : Q (some (vI v3)) h n) : Rn d (bc) (bs) mX5_addFound 46 [some (vR (some ar0)), some (vI x1), some (vI x2)] [] h n Q := by
  refine Rn_aload_n dX5_addFound_46 rfl rfl rfl ?_
  refine Rn_getfield (ci := 5) (k := 7) dX5_addFound_47 rfl in_5 (Nat.le_of_ble_eq_true rfl) wd_254 rfl h2 g4 ?_
  exact Rn_ireturn rfl dX5_addFound_50 k
theorem dX5_allFoundFrom_0 : decode cX5_allFoundFrom 0 = .ok (.iconst 0, 1) := by decide +kernel
theorem dX5_allFoundFrom_1 : decode cX5_allFoundFrom 1 = .ok (.istore 4, 2) := by decide +kernel
theorem dX5_allFoundFrom_3 : decode cX5_allFoundFrom 3 = .ok (.iload 4, 2) := by decide +kernel
theorem dX5_allFoundFrom_5 : decode cX5_allFoundFrom 5 = .ok (.aload_n 0, 1) := by decide +kernel
theorem dX5_allFoundFrom_6 : decode cX5_allFoundFrom 6 = .ok (.getfield 33, 3) := by decide +kernel
theorem dX5_allFoundFrom_9 : decode cX5_allFoundFrom 9 = .ok (.if_icmp .ge 38, 3) := by decide +kernel
theorem dX5_allFoundFrom_12 : decode cX5_allFoundFrom 12 = .ok (.aload_n 1, 1) := by decide +kernel
theorem dX5_allFoundFrom_13 : decode cX5_allFoundFrom 13 = .ok (.iload_n 2, 1) := by decide +kernel
theorem dX5_allFoundFrom_14 : decode cX5_allFoundFrom 14 = .ok (.iload_n 3, 1) := by decide +kernel
theorem dX5_allFoundFrom_15 : decode cX5_allFoundFrom 15 = .ok (.aload_n 0, 1) := by decide +kernel
theorem dX5_allFoundFrom_16 : decode cX5_allFoundFrom 16 = .ok (.getfield 15, 3) := by decide +kernel
theorem dX5_allFoundFrom_19 : decode cX5_allFoundFrom 19 = .ok (.iload 4, 2) := by decide +kernel
theorem dX5_allFoundFrom_21 : decode cX5_allFoundFrom 21 = .ok (.invokestatic 57, 3) := by decide +kernel
theorem dX5_allFoundFrom_24 : decode cX5_allFoundFrom 24 = .ok (.invokevirtual 61, 3) := by decide +kernel
theorem dX5_allFoundFrom_27 : decode cX5_allFoundFrom 27 = .ok (.aload_n 0, 1) := by decide +kernel
theorem dX5_allFoundFrom_28 : decode cX5_allFoundFrom 28 = .ok (.getfield 9, 3) := by decide +kernel
theorem dX5_allFoundFrom_31 : decode cX5_allFoundFrom 31 = .ok (.iload 4, 2) := by decide +kernel
theorem dX5_allFoundFrom_33 : decode cX5_allFoundFrom 33 = .ok (.invokestatic 57, 3) := by decide +kernel
theorem dX5_allFoundFrom_36 : decode cX5_allFoundFrom 36 = .ok (.if_icmp .eq 5, 3) := by decide +kernel
theorem dX5_allFoundFrom_39 : decode cX5_allFoundFrom 39 = .ok (.iconst 0, 1) := by decide +kernel
theorem dX5_allFoundFrom_40 : decode cX5_allFoundFrom 40 = .ok (.ireturn, 1) := by decide +kernel
theorem dX5_allFoundFrom_41 : decode cX5_allFoundFrom 41 = .ok (.iinc 4 1, 3) := by decide +kernel
theorem dX5_allFoundFrom_44 : decode cX5_allFoundFrom 44 = .ok (.goto (-41), 3) := by decide +kernel
theorem dX5_allFoundFrom_47 : decode cX5_allFoundFrom 47 = .ok (.iconst 1, 1) := by decide +kernel
theorem dX5_allFoundFrom_48 : decode cX5_allFoundFrom 48 = .ok (.ireturn, 1) := by decide +kernel
theorem BX5_allFoundFrom_0 {d bc bs : Nat} {h : aH} {n : Nat} {Q : aQ} {r0 r1 : Option Nat} {x2 x3 : Int} {l4 : Option aV} (k : Rn d bc bs mX5_allFoundFrom 3 [some (vR r0), some (vR r1), some (vI x2), some (vI x3), some (vI 0)] [] h n Q) : Rn d (bc) (bs) mX5_allFoundFrom 0 [some (vR r0), some (vR r1), some (vI x2), some (vI x3), l4] [] h n Q := by
  refine Rn_iconst dX5_allFoundFrom_0 rfl ?_
  refine Rn_istore dX5_allFoundFrom_1 (Nat.le_of_ble_eq_true rfl) rfl rfl ?_
  exact k
theorem BX5_allFoundFrom_3 {d bc bs : Nat} {h : aH} {n : Nat} {Q : aQ} {ar0 : Nat} {r1 : Option Nat} {x2 x3 x4 v3 : Int} {f1 : List aV} (h2 : h ar0 = cO 5 f1) (g4 : f1[7]? = some (vI v3)) (kt : v3 ≤ x4 → Rn d bc bs mX5_allFoundFrom 47 [some (vR (some ar0)), some (vR r1), some (vI x2), some (vI x3), some (vI x4)] [] h n Q) (kf : x4 < v3 → Rn d bc bs mX5_allFoundFrom 12 [some (vR (some ar0)), some (vR r1), some (vI x2), some (vI x3), some (vI x4)] [] h n Q) : Rn d (bc) (bs) mX5_allFoundFrom 3 [some (vR (some ar0)), some (vR r1), some (vI x2), some (vI x3), some (vI x4)] [] h n Q := by
  refine Rn_iload dX5_allFoundFrom_3 rfl ?_
  refine Rn_aload_n dX5_allFoundFrom_5 rfl rfl rfl ?_
  refine Rn_getfield (ci := 5) (k := 7) dX5_allFoundFrom_6 rfl in_5 (Nat.le_of_ble_eq_true rfl) wd_254 rfl h2 g4 ?_
  refine Rn_icmpge (tgt := 47) dX5_allFoundFrom_9 rfl ?_ ?_
  · exact kt
  · exact kf
theorem BX5_allFoundFrom_12 {d bc bs : Nat} {h : aH} {n : Nat} {Q : aQ} {ar0 : Nat} {r1 t3 : Option Nat} {x2 x3 x4 : Int} {f1 : List aV} (h2 : h ar0 = cO 5 f1) (g4 : f1[1]? = some (vR t3)) (k : Rn d 0 0 mX12_cell 0 [some (vR t3), some (vI x4)] [] h n (fun v h1 n1 => Rn (d + 1) bc bs mX5_allFoundFrom 24 [some (vR (some ar0)), some (vR r1), some (vI x2), some (vI x3), some (vI x4)] (v.toList ++ [vI x3, vI x2, vR r1]) h1 n1 Q)) : Rn (d + 1) (bc) (bs) mX5_allFoundFrom 12 [some (vR (some ar0)), some (vR r1), some (vI x2), some (vI x3), some (vI x4)] [] h n Q := by
  refine Rn_aload_n dX5_allFoundFrom_12 rfl rfl rfl ?_
  refine Rn_iload_n dX5_allFoundFrom_13 rfl rfl ?_
  refine Rn_iload_n dX5_allFoundFrom_14 rfl rfl ?_
  refine Rn_aload_n dX5_allFoundFrom_15 rfl rfl rfl ?_
  refine Rn_getfield (ci := 5) (k := 1) dX5_allFoundFrom_16 rfl in_5 (Nat.le_of_ble_eq_true rfl) wd_248 rfl h2 g4 ?_
  refine Rn_iload dX5_allFoundFrom_19 rfl ?_
  exact Rn_callS (avs := [vR t3, vI x4]) (st := [vI x3, vI x2, vR r1]) (bc1 := 0) (bs1 := 0) (bc2 := bc) (bs2 := bs) fx_X12_cell dX5_allFoundFrom_21 (Or.inr ⟨"BottledPost", List.mem_of_getElem? (i := 25) rfl⟩) wd_967 rfl (Nat.le_of_ble_eq_true rfl) (Nat.le_of_ble_eq_true rfl) (by omega) (by omega) (ls1 := [some (vR t3), some (vI x4)]) rfl k
theorem BX5_allFoundFrom_24 {d bc bs : Nat} {h : aH} {n : Nat} {Q : aQ} {r0 r1 : Option Nat} {x2 x3 x4 s1 s2 s3 : Int} {aq0 : Nat} {f1 : List aV} (h2 : h aq0 = cO 7 f1) (k : Rn d 0 0 mX7_driftsTo 0 [some (vR (some aq0)), some (vI s1), some (vI s2), some (vI s3), none, none] [] h n (fun v h1 n1 => Rn (d + 1) bc bs mX5_allFoundFrom 27 [some (vR r0), some (vR r1), some (vI x2), some (vI x3), some (vI x4)] (v.toList ++ []) h1 n1 Q)) : Rn (d + 1) (bc) (bs) mX5_allFoundFrom 24 [some (vR r0), some (vR r1), some (vI x2), some (vI x3), some (vI x4)] [vI s3, vI s2, vI s1, vR (some aq0)] h n Q := by
  exact Rn_callV (ci := 7) (avs := [vI s1, vI s2, vI s3]) (st := []) (bc1 := 0) (bs1 := 0) (bc2 := bc) (bs2 := bs) fx_X7_driftsTo dX5_allFoundFrom_24 wd_1138 wd_1073 wd_1074 rfl h2 rfl (Nat.le_of_ble_eq_true rfl) (Nat.le_of_ble_eq_true rfl) (by omega) (by omega) (ls1 := [some (vR (some aq0)), some (vI s1), some (vI s2), some (vI s3), none, none]) rfl k
theorem BX5_allFoundFrom_27 {d bc bs : Nat} {h : aH} {n : Nat} {Q : aQ} {ar0 : Nat} {r1 t3 : Option Nat} {x2 x3 x4 s0 : Int} {f1 : List aV} (h2 : h ar0 = cO 5 f1) (g4 : f1[0]? = some (vR t3)) (k : Rn d 0 0 mX12_cell 0 [some (vR t3), some (vI x4)] [] h n (fun v h1 n1 => Rn (d + 1) bc bs mX5_allFoundFrom 36 [some (vR (some ar0)), some (vR r1), some (vI x2), some (vI x3), some (vI x4)] (v.toList ++ [vI s0]) h1 n1 Q)) : Rn (d + 1) (bc) (bs) mX5_allFoundFrom 27 [some (vR (some ar0)), some (vR r1), some (vI x2), some (vI x3), some (vI x4)] [vI s0] h n Q := by
  refine Rn_aload_n dX5_allFoundFrom_27 rfl rfl rfl ?_
  refine Rn_getfield (ci := 5) (k := 0) dX5_allFoundFrom_28 rfl in_5 (Nat.le_of_ble_eq_true rfl) wd_247 rfl h2 g4 ?_
  refine Rn_iload dX5_allFoundFrom_31 rfl ?_
  exact Rn_callS (avs := [vR t3, vI x4]) (st := [vI s0]) (bc1 := 0) (bs1 := 0) (bc2 := bc) (bs2 := bs) fx_X12_cell dX5_allFoundFrom_33 (Or.inr ⟨"BottledPost", List.mem_of_getElem? (i := 25) rfl⟩) wd_967 rfl (Nat.le_of_ble_eq_true rfl) (Nat.le_of_ble_eq_true rfl) (by omega) (by omega) (ls1 := [some (vR t3), some (vI x4)]) rfl k
theorem BX5_allFoundFrom_36 {d bc bs : Nat} {h : aH} {n : Nat} {Q : aQ} {r0 r1 : Option Nat} {x2 x3 x4 s0 s1 : Int} (kt : s0 = s1 → Rn d bc bs mX5_allFoundFrom 41 [some (vR r0), some (vR r1), some (vI x2), some (vI x3), some (vI x4)] [] h n Q) (kf : s0 ≠ s1 → Rn d bc bs mX5_allFoundFrom 39 [some (vR r0), some (vR r1), some (vI x2), some (vI x3), some (vI x4)] [] h n Q) : Rn d (bc) (bs) mX5_allFoundFrom 36 [some (vR r0), some (vR r1), some (vI x2), some (vI x3), some (vI x4)] [vI s1, vI s0] h n Q := by
  refine Rn_icmpeq (tgt := 41) dX5_allFoundFrom_36 rfl ?_ ?_
  · exact kt
  · exact kf
theorem BX5_allFoundFrom_39 {d bc bs : Nat} {h : aH} {n : Nat} {Q : aQ} {r0 r1 : Option Nat} {x2 x3 x4 : Int} (k : Q (some (vI 0)) h n) : Rn d (bc) (bs) mX5_allFoundFrom 39 [some (vR r0), some (vR r1), some (vI x2), some (vI x3), some (vI x4)] [] h n Q := by
  refine Rn_iconst dX5_allFoundFrom_39 rfl ?_
  exact Rn_zreturn rfl dX5_allFoundFrom_40 (by decide) k
theorem BX5_allFoundFrom_41 {d bc bs : Nat} {h : aH} {n : Nat} {Q : aQ} {r0 r1 : Option Nat} {x2 x3 x4 : Int} (b1 : -2147483648 ≤ x4 + 1 ∧ x4 + 1 < 2147483648) (k : Rn d bc bs mX5_allFoundFrom 3 [some (vR r0), some (vR r1), some (vI x2), some (vI x3), some (vI (x4 + 1))] [] h n Q) : Rn d (bc) (bs) mX5_allFoundFrom 41 [some (vR r0), some (vR r1), some (vI x2), some (vI x3), some (vI x4)] [] h n Q := by
  refine Rn_iinc dX5_allFoundFrom_41 rfl (Nat.le_of_ble_eq_true rfl) rfl rfl rfl ?_
  rw [w32_id b1.1 b1.2]
  refine Rn_goto (tgt := 3) dX5_allFoundFrom_44 rfl ?_
  exact k
theorem BX5_allFoundFrom_47 {d bc bs : Nat} {h : aH} {n : Nat} {Q : aQ} {r0 r1 : Option Nat} {x2 x3 x4 : Int} (k : Q (some (vI 1)) h n) : Rn d (bc) (bs) mX5_allFoundFrom 47 [some (vR r0), some (vR r1), some (vI x2), some (vI x3), some (vI x4)] [] h n Q := by
  refine Rn_iconst dX5_allFoundFrom_47 rfl ?_
  exact Rn_zreturn rfl dX5_allFoundFrom_48 (by decide) k
theorem dX5_forgetCodes_0 : decode cX5_forgetCodes 0 = .ok (.aload_n 0, 1) := by decide +kernel
theorem dX5_forgetCodes_1 : decode cX5_forgetCodes 1 = .ok (.iconst 0, 1) := by decide +kernel
theorem dX5_forgetCodes_2 : decode cX5_forgetCodes 2 = .ok (.putfield 37, 3) := by decide +kernel
theorem dX5_forgetCodes_5 : decode cX5_forgetCodes 5 = .ok (.aload_n 0, 1) := by decide +kernel
theorem dX5_forgetCodes_6 : decode cX5_forgetCodes 6 = .ok (.getfield 37, 3) := by decide +kernel
theorem dX5_forgetCodes_9 : decode cX5_forgetCodes 9 = .ok (.ireturn, 1) := by decide +kernel
theorem BX5_forgetCodes_0 {d bc bs : Nat} {h : aH} {n : Nat} {Q : aQ} {ar0 : Nat} {f1 : List aV} (h2 : h ar0 = cO 5 f1) (m3 : 8 < f1.length) (k : Rn d bc bs mX5_forgetCodes 5 [some (vR (some ar0))] [] (up h ar0 (cO 5 (f1.set 8 (vI 0)))) n Q) : Rn d (bc) (bs) mX5_forgetCodes 0 [some (vR (some ar0))] [] h n Q := by
  refine Rn_aload_n dX5_forgetCodes_0 rfl rfl rfl ?_
  refine Rn_iconst dX5_forgetCodes_1 rfl ?_
  refine Rn_putfield (ci := 5) (k := 8) dX5_forgetCodes_2 rfl in_5 tyX5_ok nmX5 (Nat.le_of_ble_eq_true rfl) wd_256 rfl (Or.inl rfl) trivial m3 h2 ?_
  exact k
theorem BX5_forgetCodes_5 {d bc bs : Nat} {h : aH} {n : Nat} {Q : aQ} {ar0 : Nat} {f1 : List aV} {v3 : Int} (h2 : h ar0 = cO 5 f1) (g4 : f1[8]? = some (vI v3)) (k : Q (some (vI v3)) h n) : Rn d (bc) (bs) mX5_forgetCodes 5 [some (vR (some ar0))] [] h n Q := by
  refine Rn_aload_n dX5_forgetCodes_5 rfl rfl rfl ?_
  refine Rn_getfield (ci := 5) (k := 8) dX5_forgetCodes_6 rfl in_5 (Nat.le_of_ble_eq_true rfl) wd_256 rfl h2 g4 ?_
  exact Rn_ireturn rfl dX5_forgetCodes_9 k
theorem dX5_addCode_0 : decode cX5_addCode 0 = .ok (.aload_n 0, 1) := by decide +kernel
theorem dX5_addCode_1 : decode cX5_addCode 1 = .ok (.getfield 37, 3) := by decide +kernel
theorem dX5_addCode_4 : decode cX5_addCode 4 = .ok (.bipush 8, 2) := by decide +kernel
theorem dX5_addCode_6 : decode cX5_addCode 6 = .ok (.if_icmp .lt 6, 3) := by decide +kernel
theorem dX5_addCode_9 : decode cX5_addCode 9 = .ok (.bipush (-2), 2) := by decide +kernel
theorem dX5_addCode_11 : decode cX5_addCode 11 = .ok (.ireturn, 1) := by decide +kernel
theorem dX5_addCode_12 : decode cX5_addCode 12 = .ok (.iconst 0, 1) := by decide +kernel
theorem dX5_addCode_13 : decode cX5_addCode 13 = .ok (.istore_n 2, 1) := by decide +kernel
theorem dX5_addCode_14 : decode cX5_addCode 14 = .ok (.iload_n 2, 1) := by decide +kernel
theorem dX5_addCode_15 : decode cX5_addCode 15 = .ok (.aload_n 0, 1) := by decide +kernel
theorem dX5_addCode_16 : decode cX5_addCode 16 = .ok (.getfield 37, 3) := by decide +kernel
theorem dX5_addCode_19 : decode cX5_addCode 19 = .ok (.if_icmp .ge 21, 3) := by decide +kernel
theorem dX5_addCode_22 : decode cX5_addCode 22 = .ok (.aload_n 0, 1) := by decide +kernel
theorem dX5_addCode_23 : decode cX5_addCode 23 = .ok (.iload_n 2, 1) := by decide +kernel
theorem dX5_addCode_24 : decode cX5_addCode 24 = .ok (.invokevirtual 67, 3) := by decide +kernel
theorem dX5_addCode_27 : decode cX5_addCode 27 = .ok (.iload_n 1, 1) := by decide +kernel
theorem dX5_addCode_28 : decode cX5_addCode 28 = .ok (.if_icmp .ne 6, 3) := by decide +kernel
theorem dX5_addCode_31 : decode cX5_addCode 31 = .ok (.bipush (-2), 2) := by decide +kernel
theorem dX5_addCode_33 : decode cX5_addCode 33 = .ok (.ireturn, 1) := by decide +kernel
theorem dX5_addCode_34 : decode cX5_addCode 34 = .ok (.iinc 2 1, 3) := by decide +kernel
theorem dX5_addCode_37 : decode cX5_addCode 37 = .ok (.goto (-23), 3) := by decide +kernel
theorem dX5_addCode_40 : decode cX5_addCode 40 = .ok (.aload_n 0, 1) := by decide +kernel
theorem dX5_addCode_41 : decode cX5_addCode 41 = .ok (.getfield 18, 3) := by decide +kernel
theorem dX5_addCode_44 : decode cX5_addCode 44 = .ok (.aload_n 0, 1) := by decide +kernel
theorem dX5_addCode_45 : decode cX5_addCode 45 = .ok (.getfield 37, 3) := by decide +kernel
theorem dX5_addCode_48 : decode cX5_addCode 48 = .ok (.iload_n 1, 1) := by decide +kernel
theorem dX5_addCode_49 : decode cX5_addCode 49 = .ok (.invokestatic 53, 3) := by decide +kernel
theorem dX5_addCode_52 : decode cX5_addCode 52 = .ok (.aload_n 0, 1) := by decide +kernel
theorem dX5_addCode_53 : decode cX5_addCode 53 = .ok (.dup, 1) := by decide +kernel
theorem dX5_addCode_54 : decode cX5_addCode 54 = .ok (.getfield 37, 3) := by decide +kernel
theorem dX5_addCode_57 : decode cX5_addCode 57 = .ok (.iconst 1, 1) := by decide +kernel
theorem dX5_addCode_58 : decode cX5_addCode 58 = .ok (.iadd, 1) := by decide +kernel
theorem dX5_addCode_59 : decode cX5_addCode 59 = .ok (.putfield 37, 3) := by decide +kernel
theorem dX5_addCode_62 : decode cX5_addCode 62 = .ok (.aload_n 0, 1) := by decide +kernel
theorem dX5_addCode_63 : decode cX5_addCode 63 = .ok (.getfield 37, 3) := by decide +kernel
theorem dX5_addCode_66 : decode cX5_addCode 66 = .ok (.ireturn, 1) := by decide +kernel
theorem BX5_addCode_0 {d bc bs : Nat} {h : aH} {n : Nat} {Q : aQ} {ar0 : Nat} {x1 v3 : Int} {l2 : Option aV} {f1 : List aV} (h2 : h ar0 = cO 5 f1) (g4 : f1[8]? = some (vI v3)) (kt : v3 < 8 → Rn d bc bs mX5_addCode 12 [some (vR (some ar0)), some (vI x1), l2] [] h n Q) (kf : 8 ≤ v3 → Rn d bc bs mX5_addCode 9 [some (vR (some ar0)), some (vI x1), l2] [] h n Q) : Rn d (bc) (bs) mX5_addCode 0 [some (vR (some ar0)), some (vI x1), l2] [] h n Q := by
  refine Rn_aload_n dX5_addCode_0 rfl rfl rfl ?_
  refine Rn_getfield (ci := 5) (k := 8) dX5_addCode_1 rfl in_5 (Nat.le_of_ble_eq_true rfl) wd_256 rfl h2 g4 ?_
  refine Rn_bipush dX5_addCode_4 rfl ?_
  refine Rn_icmplt (tgt := 12) dX5_addCode_6 rfl ?_ ?_
  · exact kt
  · exact kf
theorem BX5_addCode_9 {d bc bs : Nat} {h : aH} {n : Nat} {Q : aQ} {r0 : Option Nat} {x1 : Int} {l2 : Option aV} (k : Q (some (vI (-2))) h n) : Rn d (bc) (bs) mX5_addCode 9 [some (vR r0), some (vI x1), l2] [] h n Q := by
  refine Rn_bipush dX5_addCode_9 rfl ?_
  exact Rn_ireturn rfl dX5_addCode_11 k
theorem BX5_addCode_12 {d bc bs : Nat} {h : aH} {n : Nat} {Q : aQ} {r0 : Option Nat} {x1 : Int} {l2 : Option aV} (k : Rn d bc bs mX5_addCode 14 [some (vR r0), some (vI x1), some (vI 0)] [] h n Q) : Rn d (bc) (bs) mX5_addCode 12 [some (vR r0), some (vI x1), l2] [] h n Q := by
  refine Rn_iconst dX5_addCode_12 rfl ?_
  refine Rn_istore_n dX5_addCode_13 rfl (Nat.le_of_ble_eq_true rfl) rfl rfl ?_
  exact k
theorem BX5_addCode_14 {d bc bs : Nat} {h : aH} {n : Nat} {Q : aQ} {ar0 : Nat} {x1 x2 v3 : Int} {f1 : List aV} (h2 : h ar0 = cO 5 f1) (g4 : f1[8]? = some (vI v3)) (kt : v3 ≤ x2 → Rn d bc bs mX5_addCode 40 [some (vR (some ar0)), some (vI x1), some (vI x2)] [] h n Q) (kf : x2 < v3 → Rn d bc bs mX5_addCode 22 [some (vR (some ar0)), some (vI x1), some (vI x2)] [] h n Q) : Rn d (bc) (bs) mX5_addCode 14 [some (vR (some ar0)), some (vI x1), some (vI x2)] [] h n Q := by
  refine Rn_iload_n dX5_addCode_14 rfl rfl ?_
  refine Rn_aload_n dX5_addCode_15 rfl rfl rfl ?_
  refine Rn_getfield (ci := 5) (k := 8) dX5_addCode_16 rfl in_5 (Nat.le_of_ble_eq_true rfl) wd_256 rfl h2 g4 ?_
  refine Rn_icmpge (tgt := 40) dX5_addCode_19 rfl ?_ ?_
  · exact kt
  · exact kf
theorem BX5_addCode_22 {d bc bs : Nat} {h : aH} {n : Nat} {Q : aQ} {ar0 : Nat} {x1 x2 : Int} {f1 : List aV} (h2 : h ar0 = cO 5 f1) (k : Rn d 0 0 mX5_word 0 [some (vR (some ar0)), some (vI x2)] [] h n (fun v h1 n1 => Rn (d + 1) bc bs mX5_addCode 27 [some (vR (some ar0)), some (vI x1), some (vI x2)] (v.toList ++ []) h1 n1 Q)) : Rn (d + 1) (bc) (bs) mX5_addCode 22 [some (vR (some ar0)), some (vI x1), some (vI x2)] [] h n Q := by
  refine Rn_aload_n dX5_addCode_22 rfl rfl rfl ?_
  refine Rn_iload_n dX5_addCode_23 rfl rfl ?_
  exact Rn_callV (ci := 5) (avs := [vI x2]) (st := []) (bc1 := 0) (bs1 := 0) (bc2 := bc) (bs2 := bs) fx_X5_word dX5_addCode_24 wd_1169 wd_1170 wd_1171 rfl h2 rfl (Nat.le_of_ble_eq_true rfl) (Nat.le_of_ble_eq_true rfl) (by omega) (by omega) (ls1 := [some (vR (some ar0)), some (vI x2)]) rfl k
theorem BX5_addCode_27 {d bc bs : Nat} {h : aH} {n : Nat} {Q : aQ} {r0 : Option Nat} {x1 x2 s0 : Int} (kt : s0 ≠ x1 → Rn d bc bs mX5_addCode 34 [some (vR r0), some (vI x1), some (vI x2)] [] h n Q) (kf : s0 = x1 → Rn d bc bs mX5_addCode 31 [some (vR r0), some (vI x1), some (vI x2)] [] h n Q) : Rn d (bc) (bs) mX5_addCode 27 [some (vR r0), some (vI x1), some (vI x2)] [vI s0] h n Q := by
  refine Rn_iload_n dX5_addCode_27 rfl rfl ?_
  refine Rn_icmpne (tgt := 34) dX5_addCode_28 rfl ?_ ?_
  · exact kt
  · exact kf
theorem BX5_addCode_31 {d bc bs : Nat} {h : aH} {n : Nat} {Q : aQ} {r0 : Option Nat} {x1 x2 : Int} (k : Q (some (vI (-2))) h n) : Rn d (bc) (bs) mX5_addCode 31 [some (vR r0), some (vI x1), some (vI x2)] [] h n Q := by
  refine Rn_bipush dX5_addCode_31 rfl ?_
  exact Rn_ireturn rfl dX5_addCode_33 k
theorem BX5_addCode_34 {d bc bs : Nat} {h : aH} {n : Nat} {Q : aQ} {r0 : Option Nat} {x1 x2 : Int} (b1 : -2147483648 ≤ x2 + 1 ∧ x2 + 1 < 2147483648) (k : Rn d bc bs mX5_addCode 14 [some (vR r0), some (vI x1), some (vI (x2 + 1))] [] h n Q) : Rn d (bc) (bs) mX5_addCode 34 [some (vR r0), some (vI x1), some (vI x2)] [] h n Q := by
  refine Rn_iinc dX5_addCode_34 rfl (Nat.le_of_ble_eq_true rfl) rfl rfl rfl ?_
  rw [w32_id b1.1 b1.2]
  refine Rn_goto (tgt := 14) dX5_addCode_37 rfl ?_
  exact k
theorem BX5_addCode_40 {d bc bs : Nat} {h : aH} {n : Nat} {Q : aQ} {ar0 : Nat} {x1 x2 v5 : Int} {f1 : List aV} {t3 : Option Nat} (h2 : h ar0 = cO 5 f1) (g4 : f1[2]? = some (vR t3)) (g6 : f1[8]? = some (vI v5)) (k : Rn d 0 0 mX12_setCell 0 [some (vR t3), some (vI v5), some (vI x1)] [] h n (fun v h1 n1 => Rn (d + 1) bc bs mX5_addCode 52 [some (vR (some ar0)), some (vI x1), some (vI x2)] (v.toList ++ []) h1 n1 Q)) : Rn (d + 1) (bc) (bs) mX5_addCode 40 [some (vR (some ar0)), some (vI x1), some (vI x2)] [] h n Q := by
  refine Rn_aload_n dX5_addCode_40 rfl rfl rfl ?_
  refine Rn_getfield (ci := 5) (k := 2) dX5_addCode_41 rfl in_5 (Nat.le_of_ble_eq_true rfl) wd_249 rfl h2 g4 ?_
  refine Rn_aload_n dX5_addCode_44 rfl rfl rfl ?_
  refine Rn_getfield (ci := 5) (k := 8) dX5_addCode_45 rfl in_5 (Nat.le_of_ble_eq_true rfl) wd_256 rfl h2 g6 ?_
  refine Rn_iload_n dX5_addCode_48 rfl rfl ?_
  exact Rn_callS (avs := [vR t3, vI v5, vI x1]) (st := []) (bc1 := 0) (bs1 := 0) (bc2 := bc) (bs2 := bs) fx_X12_setCell dX5_addCode_49 (Or.inr ⟨"BottledPost", List.mem_of_getElem? (i := 24) rfl⟩) wd_164 rfl (Nat.le_of_ble_eq_true rfl) (Nat.le_of_ble_eq_true rfl) (by omega) (by omega) (ls1 := [some (vR t3), some (vI v5), some (vI x1)]) rfl k
theorem BX5_addCode_52 {d bc bs : Nat} {h : aH} {n : Nat} {Q : aQ} {ar0 : Nat} {x1 x2 v3 : Int} {f1 : List aV} (h2 : h ar0 = cO 5 f1) (g4 : f1[8]? = some (vI v3)) (b5 : -2147483648 ≤ v3 + 1 ∧ v3 + 1 < 2147483648) (m6 : 8 < f1.length) (k : Rn d bc bs mX5_addCode 62 [some (vR (some ar0)), some (vI x1), some (vI x2)] [] (up h ar0 (cO 5 (f1.set 8 (vI (v3 + 1))))) n Q) : Rn d (bc) (bs) mX5_addCode 52 [some (vR (some ar0)), some (vI x1), some (vI x2)] [] h n Q := by
  refine Rn_aload_n dX5_addCode_52 rfl rfl rfl ?_
  refine Rn_dup dX5_addCode_53 rfl ?_
  refine Rn_getfield (ci := 5) (k := 8) dX5_addCode_54 rfl in_5 (Nat.le_of_ble_eq_true rfl) wd_256 rfl h2 g4 ?_
  refine Rn_iconst dX5_addCode_57 rfl ?_
  refine Rn_iadd dX5_addCode_58 ?_
  rw [w32_id b5.1 b5.2]
  refine Rn_putfield (ci := 5) (k := 8) dX5_addCode_59 rfl in_5 tyX5_ok nmX5 (Nat.le_of_ble_eq_true rfl) wd_256 rfl (Or.inl rfl) trivial m6 h2 ?_
  exact k
theorem BX5_addCode_62 {d bc bs : Nat} {h : aH} {n : Nat} {Q : aQ} {ar0 : Nat} {x1 x2 v3 : Int} {f1 : List aV} (h2 : h ar0 = cO 5 f1) (g4 : f1[8]? = some (vI v3)) (k : Q (some (vI v3)) h n) : Rn d (bc) (bs) mX5_addCode 62 [some (vR (some ar0)), some (vI x1), some (vI x2)] [] h n Q := by
  refine Rn_aload_n dX5_addCode_62 rfl rfl rfl ?_
  refine Rn_getfield (ci := 5) (k := 8) dX5_addCode_63 rfl in_5 (Nat.le_of_ble_eq_true rfl) wd_256 rfl h2 g4 ?_
  exact Rn_ireturn rfl dX5_addCode_66 k
theorem dX5_word_0 : decode cX5_word 0 = .ok (.aload_n 0, 1) := by decide +kernel
theorem dX5_word_1 : decode cX5_word 1 = .ok (.getfield 18, 3) := by decide +kernel
theorem dX5_word_4 : decode cX5_word 4 = .ok (.iload_n 1, 1) := by decide +kernel
theorem dX5_word_5 : decode cX5_word 5 = .ok (.invokestatic 57, 3) := by decide +kernel
theorem dX5_word_8 : decode cX5_word 8 = .ok (.ireturn, 1) := by decide +kernel
theorem BX5_word_0 {d bc bs : Nat} {h : aH} {n : Nat} {Q : aQ} {ar0 : Nat} {x1 : Int} {f1 : List aV} {t3 : Option Nat} (h2 : h ar0 = cO 5 f1) (g4 : f1[2]? = some (vR t3)) (k : Rn d 0 0 mX12_cell 0 [some (vR t3), some (vI x1)] [] h n (fun v h1 n1 => Rn (d + 1) bc bs mX5_word 8 [some (vR (some ar0)), some (vI x1)] (v.toList ++ []) h1 n1 Q)) : Rn (d + 1) (bc) (bs) mX5_word 0 [some (vR (some ar0)), some (vI x1)] [] h n Q := by
  refine Rn_aload_n dX5_word_0 rfl rfl rfl ?_
  refine Rn_getfield (ci := 5) (k := 2) dX5_word_1 rfl in_5 (Nat.le_of_ble_eq_true rfl) wd_249 rfl h2 g4 ?_
  refine Rn_iload_n dX5_word_4 rfl rfl ?_
  exact Rn_callS (avs := [vR t3, vI x1]) (st := []) (bc1 := 0) (bs1 := 0) (bc2 := bc) (bs2 := bs) fx_X12_cell dX5_word_5 (Or.inr ⟨"BottledPost", List.mem_of_getElem? (i := 25) rfl⟩) wd_967 rfl (Nat.le_of_ble_eq_true rfl) (Nat.le_of_ble_eq_true rfl) (by omega) (by omega) (ls1 := [some (vR t3), some (vI x1)]) rfl k
theorem BX5_word_8 {d bc bs : Nat} {h : aH} {n : Nat} {Q : aQ} {r0 : Option Nat} {x1 s0 : Int} (k : Q (some (vI s0)) h n) : Rn d (bc) (bs) mX5_word 8 [some (vR r0), some (vI x1)] [vI s0] h n Q := by
  exact Rn_ireturn rfl dX5_word_8 k
theorem dX5_addHalves_0 : decode cX5_addHalves 0 = .ok (.iload_n 1, 1) := by decide +kernel
theorem dX5_addHalves_1 : decode cX5_addHalves 1 = .ok (.iload_n 2, 1) := by decide +kernel
theorem dX5_addHalves_2 : decode cX5_addHalves 2 = .ok (.invokestatic 71, 3) := by decide +kernel
theorem dX5_addHalves_5 : decode cX5_addHalves 5 = .ok (.ifCond .eq 15, 3) := by decide +kernel
theorem dX5_addHalves_8 : decode cX5_addHalves 8 = .ok (.aload_n 0, 1) := by decide +kernel
theorem dX5_addHalves_9 : decode cX5_addHalves 9 = .ok (.iload_n 1, 1) := by decide +kernel
theorem dX5_addHalves_10 : decode cX5_addHalves 10 = .ok (.invokevirtual 75, 3) := by decide +kernel
theorem dX5_addHalves_13 : decode cX5_addHalves 13 = .ok (.iconst 1, 1) := by decide +kernel
theorem dX5_addHalves_14 : decode cX5_addHalves 14 = .ok (.iload_n 2, 1) := by decide +kernel
theorem dX5_addHalves_15 : decode cX5_addHalves 15 = .ok (.ishl, 1) := by decide +kernel
theorem dX5_addHalves_16 : decode cX5_addHalves 16 = .ok (.iand, 1) := by decide +kernel
theorem dX5_addHalves_17 : decode cX5_addHalves 17 = .ok (.ifCond .eq 5, 3) := by decide +kernel
theorem dX5_addHalves_20 : decode cX5_addHalves 20 = .ok (.iconst 0, 1) := by decide +kernel
theorem dX5_addHalves_21 : decode cX5_addHalves 21 = .ok (.ireturn, 1) := by decide +kernel
theorem dX5_addHalves_22 : decode cX5_addHalves 22 = .ok (.aload_n 0, 1) := by decide +kernel
theorem dX5_addHalves_23 : decode cX5_addHalves 23 = .ok (.getfield 21, 3) := by decide +kernel
theorem dX5_addHalves_26 : decode cX5_addHalves 26 = .ok (.iload_n 1, 1) := by decide +kernel
theorem dX5_addHalves_27 : decode cX5_addHalves 27 = .ok (.aload_n 0, 1) := by decide +kernel
theorem dX5_addHalves_28 : decode cX5_addHalves 28 = .ok (.iload_n 1, 1) := by decide +kernel
theorem dX5_addHalves_29 : decode cX5_addHalves 29 = .ok (.invokevirtual 75, 3) := by decide +kernel
theorem dX5_addHalves_32 : decode cX5_addHalves 32 = .ok (.iconst 1, 1) := by decide +kernel
theorem dX5_addHalves_33 : decode cX5_addHalves 33 = .ok (.iload_n 2, 1) := by decide +kernel
theorem dX5_addHalves_34 : decode cX5_addHalves 34 = .ok (.ishl, 1) := by decide +kernel
theorem dX5_addHalves_35 : decode cX5_addHalves 35 = .ok (.ior, 1) := by decide +kernel
theorem dX5_addHalves_36 : decode cX5_addHalves 36 = .ok (.invokestatic 53, 3) := by decide +kernel
theorem dX5_addHalves_39 : decode cX5_addHalves 39 = .ok (.aload_n 0, 1) := by decide +kernel
theorem dX5_addHalves_40 : decode cX5_addHalves 40 = .ok (.getfield 21, 3) := by decide +kernel
theorem dX5_addHalves_43 : decode cX5_addHalves 43 = .ok (.iload_n 2, 1) := by decide +kernel
theorem dX5_addHalves_44 : decode cX5_addHalves 44 = .ok (.aload_n 0, 1) := by decide +kernel
theorem dX5_addHalves_45 : decode cX5_addHalves 45 = .ok (.iload_n 2, 1) := by decide +kernel
theorem dX5_addHalves_46 : decode cX5_addHalves 46 = .ok (.invokevirtual 75, 3) := by decide +kernel
theorem dX5_addHalves_49 : decode cX5_addHalves 49 = .ok (.iconst 1, 1) := by decide +kernel
theorem dX5_addHalves_50 : decode cX5_addHalves 50 = .ok (.iload_n 1, 1) := by decide +kernel
theorem dX5_addHalves_51 : decode cX5_addHalves 51 = .ok (.ishl, 1) := by decide +kernel
theorem dX5_addHalves_52 : decode cX5_addHalves 52 = .ok (.ior, 1) := by decide +kernel
theorem dX5_addHalves_53 : decode cX5_addHalves 53 = .ok (.invokestatic 53, 3) := by decide +kernel
theorem dX5_addHalves_56 : decode cX5_addHalves 56 = .ok (.iconst 1, 1) := by decide +kernel
theorem dX5_addHalves_57 : decode cX5_addHalves 57 = .ok (.ireturn, 1) := by decide +kernel
theorem BX5_addHalves_0 {d bc bs : Nat} {h : aH} {n : Nat} {Q : aQ} {r0 : Option Nat} {x1 x2 : Int} (k : Rn d 0 0 mX5_areUnlikeLetters 0 [some (vI x1), some (vI x2)] [] h n (fun v h1 n1 => Rn (d + 1) bc bs mX5_addHalves 5 [some (vR r0), some (vI x1), some (vI x2)] (v.toList ++ []) h1 n1 Q)) : Rn (d + 1) (bc) (bs) mX5_addHalves 0 [some (vR r0), some (vI x1), some (vI x2)] [] h n Q := by
  refine Rn_iload_n dX5_addHalves_0 rfl rfl ?_
  refine Rn_iload_n dX5_addHalves_1 rfl rfl ?_
  exact Rn_callS (avs := [vI x1, vI x2]) (st := []) (bc1 := 0) (bs1 := 0) (bc2 := bc) (bs2 := bs) fx_X5_areUnlikeLetters dX5_addHalves_2 (Or.inl wd_1232) wd_1233 rfl (Nat.le_of_ble_eq_true rfl) (Nat.le_of_ble_eq_true rfl) (by omega) (by omega) (ls1 := [some (vI x1), some (vI x2)]) rfl k
theorem BX5_addHalves_5 {d bc bs : Nat} {h : aH} {n : Nat} {Q : aQ} {r0 : Option Nat} {x1 x2 s0 : Int} (kt : s0 = 0 → Rn d bc bs mX5_addHalves 20 [some (vR r0), some (vI x1), some (vI x2)] [] h n Q) (kf : s0 ≠ 0 → Rn d bc bs mX5_addHalves 8 [some (vR r0), some (vI x1), some (vI x2)] [] h n Q) : Rn d (bc) (bs) mX5_addHalves 5 [some (vR r0), some (vI x1), some (vI x2)] [vI s0] h n Q := by
  refine Rn_ifeq (tgt := 20) dX5_addHalves_5 rfl ?_ ?_
  · exact kt
  · exact kf
theorem BX5_addHalves_8 {d bc bs : Nat} {h : aH} {n : Nat} {Q : aQ} {ar0 : Nat} {x1 x2 : Int} {f1 : List aV} (h2 : h ar0 = cO 5 f1) (k : Rn d 0 0 mX5_unlikeOf 0 [some (vR (some ar0)), some (vI x1)] [] h n (fun v h1 n1 => Rn (d + 1) bc bs mX5_addHalves 13 [some (vR (some ar0)), some (vI x1), some (vI x2)] (v.toList ++ []) h1 n1 Q)) : Rn (d + 1) (bc) (bs) mX5_addHalves 8 [some (vR (some ar0)), some (vI x1), some (vI x2)] [] h n Q := by
  refine Rn_aload_n dX5_addHalves_8 rfl rfl rfl ?_
  refine Rn_iload_n dX5_addHalves_9 rfl rfl ?_
  exact Rn_callV (ci := 5) (avs := [vI x1]) (st := []) (bc1 := 0) (bs1 := 0) (bc2 := bc) (bs2 := bs) fx_X5_unlikeOf dX5_addHalves_10 wd_1236 wd_1237 wd_1238 rfl h2 rfl (Nat.le_of_ble_eq_true rfl) (Nat.le_of_ble_eq_true rfl) (by omega) (by omega) (ls1 := [some (vR (some ar0)), some (vI x1)]) rfl k
theorem BX5_addHalves_13 {d bc bs : Nat} {h : aH} {n : Nat} {Q : aQ} {r0 : Option Nat} {x1 x2 s0 : Int} (kt : (and32 s0 (shl32 1 x2)) = 0 → Rn d bc bs mX5_addHalves 22 [some (vR r0), some (vI x1), some (vI x2)] [] h n Q) (kf : (and32 s0 (shl32 1 x2)) ≠ 0 → Rn d bc bs mX5_addHalves 20 [some (vR r0), some (vI x1), some (vI x2)] [] h n Q) : Rn d (bc) (bs) mX5_addHalves 13 [some (vR r0), some (vI x1), some (vI x2)] [vI s0] h n Q := by
  refine Rn_iconst dX5_addHalves_13 rfl ?_
  refine Rn_iload_n dX5_addHalves_14 rfl rfl ?_
  refine Rn_ishl dX5_addHalves_15 ?_
  refine Rn_iand dX5_addHalves_16 ?_
  refine Rn_ifeq (tgt := 22) dX5_addHalves_17 rfl ?_ ?_
  · exact kt
  · exact kf
theorem BX5_addHalves_20 {d bc bs : Nat} {h : aH} {n : Nat} {Q : aQ} {r0 : Option Nat} {x1 x2 : Int} (k : Q (some (vI 0)) h n) : Rn d (bc) (bs) mX5_addHalves 20 [some (vR r0), some (vI x1), some (vI x2)] [] h n Q := by
  refine Rn_iconst dX5_addHalves_20 rfl ?_
  exact Rn_zreturn rfl dX5_addHalves_21 (by decide) k
theorem BX5_addHalves_22 {d bc bs : Nat} {h : aH} {n : Nat} {Q : aQ} {ar0 : Nat} {x1 x2 : Int} {f1 : List aV} {t3 : Option Nat} (h2 : h ar0 = cO 5 f1) (g4 : f1[3]? = some (vR t3)) (k : Rn d 0 0 mX5_unlikeOf 0 [some (vR (some ar0)), some (vI x1)] [] h n (fun v h1 n1 => Rn (d + 1) bc bs mX5_addHalves 32 [some (vR (some ar0)), some (vI x1), some (vI x2)] (v.toList ++ [vI x1, vR t3]) h1 n1 Q)) : Rn (d + 1) (bc) (bs) mX5_addHalves 22 [some (vR (some ar0)), some (vI x1), some (vI x2)] [] h n Q := by
  refine Rn_aload_n dX5_addHalves_22 rfl rfl rfl ?_
  refine Rn_getfield (ci := 5) (k := 3) dX5_addHalves_23 rfl in_5 (Nat.le_of_ble_eq_true rfl) wd_250 rfl h2 g4 ?_
  refine Rn_iload_n dX5_addHalves_26 rfl rfl ?_
  refine Rn_aload_n dX5_addHalves_27 rfl rfl rfl ?_
  refine Rn_iload_n dX5_addHalves_28 rfl rfl ?_
  exact Rn_callV (ci := 5) (avs := [vI x1]) (st := [vI x1, vR t3]) (bc1 := 0) (bs1 := 0) (bc2 := bc) (bs2 := bs) fx_X5_unlikeOf dX5_addHalves_29 wd_1236 wd_1237 wd_1238 rfl h2 rfl (Nat.le_of_ble_eq_true rfl) (Nat.le_of_ble_eq_true rfl) (by omega) (by omega) (ls1 := [some (vR (some ar0)), some (vI x1)]) rfl k
theorem BX5_addHalves_32 {d bc bs : Nat} {h : aH} {n : Nat} {Q : aQ} {r0 q0 : Option Nat} {x1 x2 s1 s2 : Int} (k : Rn d 0 0 mX12_setCell 0 [some (vR q0), some (vI s1), some (vI (or32 s2 (shl32 1 x2)))] [] h n (fun v h1 n1 => Rn (d + 1) bc bs mX5_addHalves 39 [some (vR r0), some (vI x1), some (vI x2)] (v.toList ++ []) h1 n1 Q)) : Rn (d + 1) (bc) (bs) mX5_addHalves 32 [some (vR r0), some (vI x1), some (vI x2)] [vI s2, vI s1, vR q0] h n Q := by
  refine Rn_iconst dX5_addHalves_32 rfl ?_
  refine Rn_iload_n dX5_addHalves_33 rfl rfl ?_
  refine Rn_ishl dX5_addHalves_34 ?_
  refine Rn_ior dX5_addHalves_35 ?_
  exact Rn_callS (avs := [vR q0, vI s1, vI (or32 s2 (shl32 1 x2))]) (st := []) (bc1 := 0) (bs1 := 0) (bc2 := bc) (bs2 := bs) fx_X12_setCell dX5_addHalves_36 (Or.inr ⟨"BottledPost", List.mem_of_getElem? (i := 24) rfl⟩) wd_164 rfl (Nat.le_of_ble_eq_true rfl) (Nat.le_of_ble_eq_true rfl) (by omega) (by omega) (ls1 := [some (vR q0), some (vI s1), some (vI (or32 s2 (shl32 1 x2)))]) rfl k
theorem BX5_addHalves_39 {d bc bs : Nat} {h : aH} {n : Nat} {Q : aQ} {ar0 : Nat} {x1 x2 : Int} {f1 : List aV} {t3 : Option Nat} (h2 : h ar0 = cO 5 f1) (g4 : f1[3]? = some (vR t3)) (k : Rn d 0 0 mX5_unlikeOf 0 [some (vR (some ar0)), some (vI x2)] [] h n (fun v h1 n1 => Rn (d + 1) bc bs mX5_addHalves 49 [some (vR (some ar0)), some (vI x1), some (vI x2)] (v.toList ++ [vI x2, vR t3]) h1 n1 Q)) : Rn (d + 1) (bc) (bs) mX5_addHalves 39 [some (vR (some ar0)), some (vI x1), some (vI x2)] [] h n Q := by
  refine Rn_aload_n dX5_addHalves_39 rfl rfl rfl ?_
  refine Rn_getfield (ci := 5) (k := 3) dX5_addHalves_40 rfl in_5 (Nat.le_of_ble_eq_true rfl) wd_250 rfl h2 g4 ?_
  refine Rn_iload_n dX5_addHalves_43 rfl rfl ?_
  refine Rn_aload_n dX5_addHalves_44 rfl rfl rfl ?_
  refine Rn_iload_n dX5_addHalves_45 rfl rfl ?_
  exact Rn_callV (ci := 5) (avs := [vI x2]) (st := [vI x2, vR t3]) (bc1 := 0) (bs1 := 0) (bc2 := bc) (bs2 := bs) fx_X5_unlikeOf dX5_addHalves_46 wd_1236 wd_1237 wd_1238 rfl h2 rfl (Nat.le_of_ble_eq_true rfl) (Nat.le_of_ble_eq_true rfl) (by omega) (by omega) (ls1 := [some (vR (some ar0)), some (vI x2)]) rfl k
theorem BX5_addHalves_49 {d bc bs : Nat} {h : aH} {n : Nat} {Q : aQ} {r0 q0 : Option Nat} {x1 x2 s1 s2 : Int} (k : Rn d 0 0 mX12_setCell 0 [some (vR q0), some (vI s1), some (vI (or32 s2 (shl32 1 x1)))] [] h n (fun v h1 n1 => Rn (d + 1) bc bs mX5_addHalves 56 [some (vR r0), some (vI x1), some (vI x2)] (v.toList ++ []) h1 n1 Q)) : Rn (d + 1) (bc) (bs) mX5_addHalves 49 [some (vR r0), some (vI x1), some (vI x2)] [vI s2, vI s1, vR q0] h n Q := by
  refine Rn_iconst dX5_addHalves_49 rfl ?_
  refine Rn_iload_n dX5_addHalves_50 rfl rfl ?_
  refine Rn_ishl dX5_addHalves_51 ?_
  refine Rn_ior dX5_addHalves_52 ?_
  exact Rn_callS (avs := [vR q0, vI s1, vI (or32 s2 (shl32 1 x1))]) (st := []) (bc1 := 0) (bs1 := 0) (bc2 := bc) (bs2 := bs) fx_X12_setCell dX5_addHalves_53 (Or.inr ⟨"BottledPost", List.mem_of_getElem? (i := 24) rfl⟩) wd_164 rfl (Nat.le_of_ble_eq_true rfl) (Nat.le_of_ble_eq_true rfl) (by omega) (by omega) (ls1 := [some (vR q0), some (vI s1), some (vI (or32 s2 (shl32 1 x1)))]) rfl k
theorem BX5_addHalves_56 {d bc bs : Nat} {h : aH} {n : Nat} {Q : aQ} {r0 : Option Nat} {x1 x2 : Int} (k : Q (some (vI 1)) h n) : Rn d (bc) (bs) mX5_addHalves 56 [some (vR r0), some (vI x1), some (vI x2)] [] h n Q := by
  refine Rn_iconst dX5_addHalves_56 rfl ?_
  exact Rn_zreturn rfl dX5_addHalves_57 (by decide) k
theorem dX5_unlikeOf_0 : decode cX5_unlikeOf 0 = .ok (.aload_n 0, 1) := by decide +kernel
theorem dX5_unlikeOf_1 : decode cX5_unlikeOf 1 = .ok (.getfield 21, 3) := by decide +kernel
theorem dX5_unlikeOf_4 : decode cX5_unlikeOf 4 = .ok (.iload_n 1, 1) := by decide +kernel
theorem dX5_unlikeOf_5 : decode cX5_unlikeOf 5 = .ok (.invokestatic 57, 3) := by decide +kernel
theorem dX5_unlikeOf_8 : decode cX5_unlikeOf 8 = .ok (.ireturn, 1) := by decide +kernel
theorem BX5_unlikeOf_0 {d bc bs : Nat} {h : aH} {n : Nat} {Q : aQ} {ar0 : Nat} {x1 : Int} {f1 : List aV} {t3 : Option Nat} (h2 : h ar0 = cO 5 f1) (g4 : f1[3]? = some (vR t3)) (k : Rn d 0 0 mX12_cell 0 [some (vR t3), some (vI x1)] [] h n (fun v h1 n1 => Rn (d + 1) bc bs mX5_unlikeOf 8 [some (vR (some ar0)), some (vI x1)] (v.toList ++ []) h1 n1 Q)) : Rn (d + 1) (bc) (bs) mX5_unlikeOf 0 [some (vR (some ar0)), some (vI x1)] [] h n Q := by
  refine Rn_aload_n dX5_unlikeOf_0 rfl rfl rfl ?_
  refine Rn_getfield (ci := 5) (k := 3) dX5_unlikeOf_1 rfl in_5 (Nat.le_of_ble_eq_true rfl) wd_250 rfl h2 g4 ?_
  refine Rn_iload_n dX5_unlikeOf_4 rfl rfl ?_
  exact Rn_callS (avs := [vR t3, vI x1]) (st := []) (bc1 := 0) (bs1 := 0) (bc2 := bc) (bs2 := bs) fx_X12_cell dX5_unlikeOf_5 (Or.inr ⟨"BottledPost", List.mem_of_getElem? (i := 25) rfl⟩) wd_967 rfl (Nat.le_of_ble_eq_true rfl) (Nat.le_of_ble_eq_true rfl) (by omega) (by omega) (ls1 := [some (vR t3), some (vI x1)]) rfl k
theorem BX5_unlikeOf_8 {d bc bs : Nat} {h : aH} {n : Nat} {Q : aQ} {r0 : Option Nat} {x1 s0 : Int} (k : Q (some (vI s0)) h n) : Rn d (bc) (bs) mX5_unlikeOf 8 [some (vR r0), some (vI x1)] [vI s0] h n Q := by
  exact Rn_ireturn rfl dX5_unlikeOf_8 k
theorem dX5_addWrites_0 : decode cX5_addWrites 0 = .ok (.iload_n 1, 1) := by decide +kernel
theorem dX5_addWrites_1 : decode cX5_addWrites 1 = .ok (.iload_n 2, 1) := by decide +kernel
theorem dX5_addWrites_2 : decode cX5_addWrites 2 = .ok (.invokestatic 71, 3) := by decide +kernel
theorem dX5_addWrites_5 : decode cX5_addWrites 5 = .ok (.ifCond .eq 15, 3) := by decide +kernel
theorem dX5_addWrites_8 : decode cX5_addWrites 8 = .ok (.aload_n 0, 1) := by decide +kernel
theorem dX5_addWrites_9 : decode cX5_addWrites 9 = .ok (.iload_n 2, 1) := by decide +kernel
theorem dX5_addWrites_10 : decode cX5_addWrites 10 = .ok (.invokevirtual 78, 3) := by decide +kernel
theorem dX5_addWrites_13 : decode cX5_addWrites 13 = .ok (.iconst 1, 1) := by decide +kernel
theorem dX5_addWrites_14 : decode cX5_addWrites 14 = .ok (.iload_n 1, 1) := by decide +kernel
theorem dX5_addWrites_15 : decode cX5_addWrites 15 = .ok (.ishl, 1) := by decide +kernel
theorem dX5_addWrites_16 : decode cX5_addWrites 16 = .ok (.iand, 1) := by decide +kernel
theorem dX5_addWrites_17 : decode cX5_addWrites 17 = .ok (.ifCond .eq 5, 3) := by decide +kernel
theorem dX5_addWrites_20 : decode cX5_addWrites 20 = .ok (.iconst 0, 1) := by decide +kernel
theorem dX5_addWrites_21 : decode cX5_addWrites 21 = .ok (.ireturn, 1) := by decide +kernel
theorem dX5_addWrites_22 : decode cX5_addWrites 22 = .ok (.aload_n 0, 1) := by decide +kernel
theorem dX5_addWrites_23 : decode cX5_addWrites 23 = .ok (.getfield 24, 3) := by decide +kernel
theorem dX5_addWrites_26 : decode cX5_addWrites 26 = .ok (.iload_n 2, 1) := by decide +kernel
theorem dX5_addWrites_27 : decode cX5_addWrites 27 = .ok (.aload_n 0, 1) := by decide +kernel
theorem dX5_addWrites_28 : decode cX5_addWrites 28 = .ok (.iload_n 2, 1) := by decide +kernel
theorem dX5_addWrites_29 : decode cX5_addWrites 29 = .ok (.invokevirtual 78, 3) := by decide +kernel
theorem dX5_addWrites_32 : decode cX5_addWrites 32 = .ok (.iconst 1, 1) := by decide +kernel
theorem dX5_addWrites_33 : decode cX5_addWrites 33 = .ok (.iload_n 1, 1) := by decide +kernel
theorem dX5_addWrites_34 : decode cX5_addWrites 34 = .ok (.ishl, 1) := by decide +kernel
theorem dX5_addWrites_35 : decode cX5_addWrites 35 = .ok (.ior, 1) := by decide +kernel
theorem dX5_addWrites_36 : decode cX5_addWrites 36 = .ok (.invokestatic 53, 3) := by decide +kernel
theorem dX5_addWrites_39 : decode cX5_addWrites 39 = .ok (.iconst 1, 1) := by decide +kernel
theorem dX5_addWrites_40 : decode cX5_addWrites 40 = .ok (.ireturn, 1) := by decide +kernel
theorem BX5_addWrites_0 {d bc bs : Nat} {h : aH} {n : Nat} {Q : aQ} {r0 : Option Nat} {x1 x2 : Int} (k : Rn d 0 0 mX5_areUnlikeLetters 0 [some (vI x1), some (vI x2)] [] h n (fun v h1 n1 => Rn (d + 1) bc bs mX5_addWrites 5 [some (vR r0), some (vI x1), some (vI x2)] (v.toList ++ []) h1 n1 Q)) : Rn (d + 1) (bc) (bs) mX5_addWrites 0 [some (vR r0), some (vI x1), some (vI x2)] [] h n Q := by
  refine Rn_iload_n dX5_addWrites_0 rfl rfl ?_
  refine Rn_iload_n dX5_addWrites_1 rfl rfl ?_
  exact Rn_callS (avs := [vI x1, vI x2]) (st := []) (bc1 := 0) (bs1 := 0) (bc2 := bc) (bs2 := bs) fx_X5_areUnlikeLetters dX5_addWrites_2 (Or.inl wd_1232) wd_1233 rfl (Nat.le_of_ble_eq_true rfl) (Nat.le_of_ble_eq_true rfl) (by omega) (by omega) (ls1 := [some (vI x1), some (vI x2)]) rfl k
theorem BX5_addWrites_5 {d bc bs : Nat} {h : aH} {n : Nat} {Q : aQ} {r0 : Option Nat} {x1 x2 s0 : Int} (kt : s0 = 0 → Rn d bc bs mX5_addWrites 20 [some (vR r0), some (vI x1), some (vI x2)] [] h n Q) (kf : s0 ≠ 0 → Rn d bc bs mX5_addWrites 8 [some (vR r0), some (vI x1), some (vI x2)] [] h n Q) : Rn d (bc) (bs) mX5_addWrites 5 [some (vR r0), some (vI x1), some (vI x2)] [vI s0] h n Q := by
  refine Rn_ifeq (tgt := 20) dX5_addWrites_5 rfl ?_ ?_
  · exact kt
  · exact kf
theorem BX5_addWrites_8 {d bc bs : Nat} {h : aH} {n : Nat} {Q : aQ} {ar0 : Nat} {x1 x2 : Int} {f1 : List aV} (h2 : h ar0 = cO 5 f1) (k : Rn d 0 0 mX5_earlierThan 0 [some (vR (some ar0)), some (vI x2)] [] h n (fun v h1 n1 => Rn (d + 1) bc bs mX5_addWrites 13 [some (vR (some ar0)), some (vI x1), some (vI x2)] (v.toList ++ []) h1 n1 Q)) : Rn (d + 1) (bc) (bs) mX5_addWrites 8 [some (vR (some ar0)), some (vI x1), some (vI x2)] [] h n Q := by
  refine Rn_aload_n dX5_addWrites_8 rfl rfl rfl ?_
  refine Rn_iload_n dX5_addWrites_9 rfl rfl ?_
  exact Rn_callV (ci := 5) (avs := [vI x2]) (st := []) (bc1 := 0) (bs1 := 0) (bc2 := bc) (bs2 := bs) fx_X5_earlierThan dX5_addWrites_10 wd_1271 wd_1272 wd_1273 rfl h2 rfl (Nat.le_of_ble_eq_true rfl) (Nat.le_of_ble_eq_true rfl) (by omega) (by omega) (ls1 := [some (vR (some ar0)), some (vI x2)]) rfl k
theorem BX5_addWrites_13 {d bc bs : Nat} {h : aH} {n : Nat} {Q : aQ} {r0 : Option Nat} {x1 x2 s0 : Int} (kt : (and32 s0 (shl32 1 x1)) = 0 → Rn d bc bs mX5_addWrites 22 [some (vR r0), some (vI x1), some (vI x2)] [] h n Q) (kf : (and32 s0 (shl32 1 x1)) ≠ 0 → Rn d bc bs mX5_addWrites 20 [some (vR r0), some (vI x1), some (vI x2)] [] h n Q) : Rn d (bc) (bs) mX5_addWrites 13 [some (vR r0), some (vI x1), some (vI x2)] [vI s0] h n Q := by
  refine Rn_iconst dX5_addWrites_13 rfl ?_
  refine Rn_iload_n dX5_addWrites_14 rfl rfl ?_
  refine Rn_ishl dX5_addWrites_15 ?_
  refine Rn_iand dX5_addWrites_16 ?_
  refine Rn_ifeq (tgt := 22) dX5_addWrites_17 rfl ?_ ?_
  · exact kt
  · exact kf
theorem BX5_addWrites_20 {d bc bs : Nat} {h : aH} {n : Nat} {Q : aQ} {r0 : Option Nat} {x1 x2 : Int} (k : Q (some (vI 0)) h n) : Rn d (bc) (bs) mX5_addWrites 20 [some (vR r0), some (vI x1), some (vI x2)] [] h n Q := by
  refine Rn_iconst dX5_addWrites_20 rfl ?_
  exact Rn_zreturn rfl dX5_addWrites_21 (by decide) k
theorem BX5_addWrites_22 {d bc bs : Nat} {h : aH} {n : Nat} {Q : aQ} {ar0 : Nat} {x1 x2 : Int} {f1 : List aV} {t3 : Option Nat} (h2 : h ar0 = cO 5 f1) (g4 : f1[4]? = some (vR t3)) (k : Rn d 0 0 mX5_earlierThan 0 [some (vR (some ar0)), some (vI x2)] [] h n (fun v h1 n1 => Rn (d + 1) bc bs mX5_addWrites 32 [some (vR (some ar0)), some (vI x1), some (vI x2)] (v.toList ++ [vI x2, vR t3]) h1 n1 Q)) : Rn (d + 1) (bc) (bs) mX5_addWrites 22 [some (vR (some ar0)), some (vI x1), some (vI x2)] [] h n Q := by
  refine Rn_aload_n dX5_addWrites_22 rfl rfl rfl ?_
  refine Rn_getfield (ci := 5) (k := 4) dX5_addWrites_23 rfl in_5 (Nat.le_of_ble_eq_true rfl) wd_251 rfl h2 g4 ?_
  refine Rn_iload_n dX5_addWrites_26 rfl rfl ?_
  refine Rn_aload_n dX5_addWrites_27 rfl rfl rfl ?_
  refine Rn_iload_n dX5_addWrites_28 rfl rfl ?_
  exact Rn_callV (ci := 5) (avs := [vI x2]) (st := [vI x2, vR t3]) (bc1 := 0) (bs1 := 0) (bc2 := bc) (bs2 := bs) fx_X5_earlierThan dX5_addWrites_29 wd_1271 wd_1272 wd_1273 rfl h2 rfl (Nat.le_of_ble_eq_true rfl) (Nat.le_of_ble_eq_true rfl) (by omega) (by omega) (ls1 := [some (vR (some ar0)), some (vI x2)]) rfl k
theorem BX5_addWrites_32 {d bc bs : Nat} {h : aH} {n : Nat} {Q : aQ} {r0 q0 : Option Nat} {x1 x2 s1 s2 : Int} (k : Rn d 0 0 mX12_setCell 0 [some (vR q0), some (vI s1), some (vI (or32 s2 (shl32 1 x1)))] [] h n (fun v h1 n1 => Rn (d + 1) bc bs mX5_addWrites 39 [some (vR r0), some (vI x1), some (vI x2)] (v.toList ++ []) h1 n1 Q)) : Rn (d + 1) (bc) (bs) mX5_addWrites 32 [some (vR r0), some (vI x1), some (vI x2)] [vI s2, vI s1, vR q0] h n Q := by
  refine Rn_iconst dX5_addWrites_32 rfl ?_
  refine Rn_iload_n dX5_addWrites_33 rfl rfl ?_
  refine Rn_ishl dX5_addWrites_34 ?_
  refine Rn_ior dX5_addWrites_35 ?_
  exact Rn_callS (avs := [vR q0, vI s1, vI (or32 s2 (shl32 1 x1))]) (st := []) (bc1 := 0) (bs1 := 0) (bc2 := bc) (bs2 := bs) fx_X12_setCell dX5_addWrites_36 (Or.inr ⟨"BottledPost", List.mem_of_getElem? (i := 24) rfl⟩) wd_164 rfl (Nat.le_of_ble_eq_true rfl) (Nat.le_of_ble_eq_true rfl) (by omega) (by omega) (ls1 := [some (vR q0), some (vI s1), some (vI (or32 s2 (shl32 1 x1)))]) rfl k
theorem BX5_addWrites_39 {d bc bs : Nat} {h : aH} {n : Nat} {Q : aQ} {r0 : Option Nat} {x1 x2 : Int} (k : Q (some (vI 1)) h n) : Rn d (bc) (bs) mX5_addWrites 39 [some (vR r0), some (vI x1), some (vI x2)] [] h n Q := by
  refine Rn_iconst dX5_addWrites_39 rfl ?_
  exact Rn_zreturn rfl dX5_addWrites_40 (by decide) k
theorem dX5_earlierThan_0 : decode cX5_earlierThan 0 = .ok (.aload_n 0, 1) := by decide +kernel
theorem dX5_earlierThan_1 : decode cX5_earlierThan 1 = .ok (.getfield 24, 3) := by decide +kernel
theorem dX5_earlierThan_4 : decode cX5_earlierThan 4 = .ok (.iload_n 1, 1) := by decide +kernel
theorem dX5_earlierThan_5 : decode cX5_earlierThan 5 = .ok (.invokestatic 57, 3) := by decide +kernel
theorem dX5_earlierThan_8 : decode cX5_earlierThan 8 = .ok (.ireturn, 1) := by decide +kernel
theorem BX5_earlierThan_0 {d bc bs : Nat} {h : aH} {n : Nat} {Q : aQ} {ar0 : Nat} {x1 : Int} {f1 : List aV} {t3 : Option Nat} (h2 : h ar0 = cO 5 f1) (g4 : f1[4]? = some (vR t3)) (k : Rn d 0 0 mX12_cell 0 [some (vR t3), some (vI x1)] [] h n (fun v h1 n1 => Rn (d + 1) bc bs mX5_earlierThan 8 [some (vR (some ar0)), some (vI x1)] (v.toList ++ []) h1 n1 Q)) : Rn (d + 1) (bc) (bs) mX5_earlierThan 0 [some (vR (some ar0)), some (vI x1)] [] h n Q := by
  refine Rn_aload_n dX5_earlierThan_0 rfl rfl rfl ?_
  refine Rn_getfield (ci := 5) (k := 4) dX5_earlierThan_1 rfl in_5 (Nat.le_of_ble_eq_true rfl) wd_251 rfl h2 g4 ?_
  refine Rn_iload_n dX5_earlierThan_4 rfl rfl ?_
  exact Rn_callS (avs := [vR t3, vI x1]) (st := []) (bc1 := 0) (bs1 := 0) (bc2 := bc) (bs2 := bs) fx_X12_cell dX5_earlierThan_5 (Or.inr ⟨"BottledPost", List.mem_of_getElem? (i := 25) rfl⟩) wd_967 rfl (Nat.le_of_ble_eq_true rfl) (Nat.le_of_ble_eq_true rfl) (by omega) (by omega) (ls1 := [some (vR t3), some (vI x1)]) rfl k
theorem BX5_earlierThan_8 {d bc bs : Nat} {h : aH} {n : Nat} {Q : aQ} {r0 : Option Nat} {x1 s0 : Int} (k : Q (some (vI s0)) h n) : Rn d (bc) (bs) mX5_earlierThan 8 [some (vR r0), some (vI x1)] [vI s0] h n Q := by
  exact Rn_ireturn rfl dX5_earlierThan_8 k
theorem dX5_areUnlikeLetters_0 : decode cX5_areUnlikeLetters 0 = .ok (.iload_n 0, 1) := by decide +kernel
theorem dX5_areUnlikeLetters_1 : decode cX5_areUnlikeLetters 1 = .ok (.iconst 0, 1) := by decide +kernel
theorem dX5_areUnlikeLetters_2 : decode cX5_areUnlikeLetters 2 = .ok (.bipush 7, 2) := by decide +kernel
theorem dX5_areUnlikeLetters_4 : decode cX5_areUnlikeLetters 4 = .ok (.invokestatic 81, 3) := by decide +kernel
theorem dX5_areUnlikeLetters_7 : decode cX5_areUnlikeLetters 7 = .ok (.ifCond .eq 22, 3) := by decide +kernel
theorem dX5_areUnlikeLetters_10 : decode cX5_areUnlikeLetters 10 = .ok (.iload_n 1, 1) := by decide +kernel
theorem dX5_areUnlikeLetters_11 : decode cX5_areUnlikeLetters 11 = .ok (.iconst 0, 1) := by decide +kernel
theorem dX5_areUnlikeLetters_12 : decode cX5_areUnlikeLetters 12 = .ok (.bipush 7, 2) := by decide +kernel
theorem dX5_areUnlikeLetters_14 : decode cX5_areUnlikeLetters 14 = .ok (.invokestatic 81, 3) := by decide +kernel
theorem dX5_areUnlikeLetters_17 : decode cX5_areUnlikeLetters 17 = .ok (.ifCond .eq 12, 3) := by decide +kernel
theorem dX5_areUnlikeLetters_20 : decode cX5_areUnlikeLetters 20 = .ok (.iload_n 0, 1) := by decide +kernel
theorem dX5_areUnlikeLetters_21 : decode cX5_areUnlikeLetters 21 = .ok (.iload_n 1, 1) := by decide +kernel
theorem dX5_areUnlikeLetters_22 : decode cX5_areUnlikeLetters 22 = .ok (.if_icmp .eq 7, 3) := by decide +kernel
theorem dX5_areUnlikeLetters_25 : decode cX5_areUnlikeLetters 25 = .ok (.iconst 1, 1) := by decide +kernel
theorem dX5_areUnlikeLetters_26 : decode cX5_areUnlikeLetters 26 = .ok (.goto 4, 3) := by decide +kernel
theorem dX5_areUnlikeLetters_29 : decode cX5_areUnlikeLetters 29 = .ok (.iconst 0, 1) := by decide +kernel
theorem dX5_areUnlikeLetters_30 : decode cX5_areUnlikeLetters 30 = .ok (.ireturn, 1) := by decide +kernel
theorem BX5_areUnlikeLetters_0 {d bc bs : Nat} {h : aH} {n : Nat} {Q : aQ} {x0 x1 : Int} (k : Rn d 0 0 mX12_within 0 [some (vI x0), some (vI 0), some (vI 7)] [] h n (fun v h1 n1 => Rn (d + 1) bc bs mX5_areUnlikeLetters 7 [some (vI x0), some (vI x1)] (v.toList ++ []) h1 n1 Q)) : Rn (d + 1) (bc) (bs) mX5_areUnlikeLetters 0 [some (vI x0), some (vI x1)] [] h n Q := by
  refine Rn_iload_n dX5_areUnlikeLetters_0 rfl rfl ?_
  refine Rn_iconst dX5_areUnlikeLetters_1 rfl ?_
  refine Rn_bipush dX5_areUnlikeLetters_2 rfl ?_
  exact Rn_callS (avs := [vI x0, vI 0, vI 7]) (st := []) (bc1 := 0) (bs1 := 0) (bc2 := bc) (bs2 := bs) fx_X12_within dX5_areUnlikeLetters_4 (Or.inr ⟨"BottledPost", List.mem_of_getElem? (i := 29) rfl⟩) wd_503 rfl (Nat.le_of_ble_eq_true rfl) (Nat.le_of_ble_eq_true rfl) (by omega) (by omega) (ls1 := [some (vI x0), some (vI 0), some (vI 7)]) rfl k
theorem BX5_areUnlikeLetters_7 {d bc bs : Nat} {h : aH} {n : Nat} {Q : aQ} {x0 x1 s0 : Int} (kt : s0 = 0 → Rn d bc bs mX5_areUnlikeLetters 29 [some (vI x0), some (vI x1)] [] h n Q) (kf : s0 ≠ 0 → Rn d bc bs mX5_areUnlikeLetters 10 [some (vI x0), some (vI x1)] [] h n Q) : Rn d (bc) (bs) mX5_areUnlikeLetters 7 [some (vI x0), some (vI x1)] [vI s0] h n Q := by
  refine Rn_ifeq (tgt := 29) dX5_areUnlikeLetters_7 rfl ?_ ?_
  · exact kt
  · exact kf
theorem BX5_areUnlikeLetters_10 {d bc bs : Nat} {h : aH} {n : Nat} {Q : aQ} {x0 x1 : Int} (k : Rn d 0 0 mX12_within 0 [some (vI x1), some (vI 0), some (vI 7)] [] h n (fun v h1 n1 => Rn (d + 1) bc bs mX5_areUnlikeLetters 17 [some (vI x0), some (vI x1)] (v.toList ++ []) h1 n1 Q)) : Rn (d + 1) (bc) (bs) mX5_areUnlikeLetters 10 [some (vI x0), some (vI x1)] [] h n Q := by
  refine Rn_iload_n dX5_areUnlikeLetters_10 rfl rfl ?_
  refine Rn_iconst dX5_areUnlikeLetters_11 rfl ?_
  refine Rn_bipush dX5_areUnlikeLetters_12 rfl ?_
  exact Rn_callS (avs := [vI x1, vI 0, vI 7]) (st := []) (bc1 := 0) (bs1 := 0) (bc2 := bc) (bs2 := bs) fx_X12_within dX5_areUnlikeLetters_14 (Or.inr ⟨"BottledPost", List.mem_of_getElem? (i := 29) rfl⟩) wd_503 rfl (Nat.le_of_ble_eq_true rfl) (Nat.le_of_ble_eq_true rfl) (by omega) (by omega) (ls1 := [some (vI x1), some (vI 0), some (vI 7)]) rfl k
theorem BX5_areUnlikeLetters_17 {d bc bs : Nat} {h : aH} {n : Nat} {Q : aQ} {x0 x1 s0 : Int} (kt : s0 = 0 → Rn d bc bs mX5_areUnlikeLetters 29 [some (vI x0), some (vI x1)] [] h n Q) (kf : s0 ≠ 0 → Rn d bc bs mX5_areUnlikeLetters 20 [some (vI x0), some (vI x1)] [] h n Q) : Rn d (bc) (bs) mX5_areUnlikeLetters 17 [some (vI x0), some (vI x1)] [vI s0] h n Q := by
  refine Rn_ifeq (tgt := 29) dX5_areUnlikeLetters_17 rfl ?_ ?_
  · exact kt
  · exact kf
theorem BX5_areUnlikeLetters_20 {d bc bs : Nat} {h : aH} {n : Nat} {Q : aQ} {x0 x1 : Int} (kt : x0 = x1 → Rn d bc bs mX5_areUnlikeLetters 29 [some (vI x0), some (vI x1)] [] h n Q) (kf : x0 ≠ x1 → Rn d bc bs mX5_areUnlikeLetters 25 [some (vI x0), some (vI x1)] [] h n Q) : Rn d (bc) (bs) mX5_areUnlikeLetters 20 [some (vI x0), some (vI x1)] [] h n Q := by
  refine Rn_iload_n dX5_areUnlikeLetters_20 rfl rfl ?_
  refine Rn_iload_n dX5_areUnlikeLetters_21 rfl rfl ?_
  refine Rn_icmpeq (tgt := 29) dX5_areUnlikeLetters_22 rfl ?_ ?_
  · exact kt
  · exact kf
theorem BX5_areUnlikeLetters_25 {d bc bs : Nat} {h : aH} {n : Nat} {Q : aQ} {x0 x1 : Int} (k : Q (some (vI 1)) h n) : Rn d (bc) (bs) mX5_areUnlikeLetters 25 [some (vI x0), some (vI x1)] [] h n Q := by
  refine Rn_iconst dX5_areUnlikeLetters_25 rfl ?_
  refine Rn_goto (tgt := 30) dX5_areUnlikeLetters_26 rfl ?_
  exact Rn_zreturn rfl dX5_areUnlikeLetters_30 (by decide) k
theorem BX5_areUnlikeLetters_29 {d bc bs : Nat} {h : aH} {n : Nat} {Q : aQ} {x0 x1 : Int} (k : Q (some (vI 0)) h n) : Rn d (bc) (bs) mX5_areUnlikeLetters 29 [some (vI x0), some (vI x1)] [] h n Q := by
  refine Rn_iconst dX5_areUnlikeLetters_29 rfl ?_
  exact Rn_zreturn rfl dX5_areUnlikeLetters_30 (by decide) k
theorem dX5_forgetSaid_0 : decode cX5_forgetSaid 0 = .ok (.aload_n 0, 1) := by decide +kernel
theorem dX5_forgetSaid_1 : decode cX5_forgetSaid 1 = .ok (.iconst 0, 1) := by decide +kernel
theorem dX5_forgetSaid_2 : decode cX5_forgetSaid 2 = .ok (.putfield 40, 3) := by decide +kernel
theorem dX5_forgetSaid_5 : decode cX5_forgetSaid 5 = .ok (.aload_n 0, 1) := by decide +kernel
theorem dX5_forgetSaid_6 : decode cX5_forgetSaid 6 = .ok (.getfield 40, 3) := by decide +kernel
theorem dX5_forgetSaid_9 : decode cX5_forgetSaid 9 = .ok (.ireturn, 1) := by decide +kernel
theorem BX5_forgetSaid_0 {d bc bs : Nat} {h : aH} {n : Nat} {Q : aQ} {ar0 : Nat} {f1 : List aV} (h2 : h ar0 = cO 5 f1) (m3 : 9 < f1.length) (k : Rn d bc bs mX5_forgetSaid 5 [some (vR (some ar0))] [] (up h ar0 (cO 5 (f1.set 9 (vI 0)))) n Q) : Rn d (bc) (bs) mX5_forgetSaid 0 [some (vR (some ar0))] [] h n Q := by
  refine Rn_aload_n dX5_forgetSaid_0 rfl rfl rfl ?_
  refine Rn_iconst dX5_forgetSaid_1 rfl ?_
  refine Rn_putfield (ci := 5) (k := 9) dX5_forgetSaid_2 rfl in_5 tyX5_ok nmX5 (Nat.le_of_ble_eq_true rfl) wd_259 rfl (Or.inl rfl) trivial m3 h2 ?_
  exact k
theorem BX5_forgetSaid_5 {d bc bs : Nat} {h : aH} {n : Nat} {Q : aQ} {ar0 : Nat} {f1 : List aV} {v3 : Int} (h2 : h ar0 = cO 5 f1) (g4 : f1[9]? = some (vI v3)) (k : Q (some (vI v3)) h n) : Rn d (bc) (bs) mX5_forgetSaid 5 [some (vR (some ar0))] [] h n Q := by
  refine Rn_aload_n dX5_forgetSaid_5 rfl rfl rfl ?_
  refine Rn_getfield (ci := 5) (k := 9) dX5_forgetSaid_6 rfl in_5 (Nat.le_of_ble_eq_true rfl) wd_259 rfl h2 g4 ?_
  exact Rn_ireturn rfl dX5_forgetSaid_9 k
theorem dX5_addSaid_0 : decode cX5_addSaid 0 = .ok (.aload_n 0, 1) := by decide +kernel
theorem dX5_addSaid_1 : decode cX5_addSaid 1 = .ok (.getfield 40, 3) := by decide +kernel
theorem dX5_addSaid_4 : decode cX5_addSaid 4 = .ok (.bipush 8, 2) := by decide +kernel
theorem dX5_addSaid_6 : decode cX5_addSaid 6 = .ok (.if_icmp .lt 6, 3) := by decide +kernel
theorem dX5_addSaid_9 : decode cX5_addSaid 9 = .ok (.bipush (-2), 2) := by decide +kernel
theorem dX5_addSaid_11 : decode cX5_addSaid 11 = .ok (.ireturn, 1) := by decide +kernel
theorem dX5_addSaid_12 : decode cX5_addSaid 12 = .ok (.aload_n 0, 1) := by decide +kernel
theorem dX5_addSaid_13 : decode cX5_addSaid 13 = .ok (.getfield 27, 3) := by decide +kernel
theorem dX5_addSaid_16 : decode cX5_addSaid 16 = .ok (.aload_n 0, 1) := by decide +kernel
theorem dX5_addSaid_17 : decode cX5_addSaid 17 = .ok (.getfield 40, 3) := by decide +kernel
theorem dX5_addSaid_20 : decode cX5_addSaid 20 = .ok (.iload_n 1, 1) := by decide +kernel
theorem dX5_addSaid_21 : decode cX5_addSaid 21 = .ok (.invokestatic 53, 3) := by decide +kernel
theorem dX5_addSaid_24 : decode cX5_addSaid 24 = .ok (.aload_n 0, 1) := by decide +kernel
theorem dX5_addSaid_25 : decode cX5_addSaid 25 = .ok (.getfield 30, 3) := by decide +kernel
theorem dX5_addSaid_28 : decode cX5_addSaid 28 = .ok (.aload_n 0, 1) := by decide +kernel
theorem dX5_addSaid_29 : decode cX5_addSaid 29 = .ok (.getfield 40, 3) := by decide +kernel
theorem dX5_addSaid_32 : decode cX5_addSaid 32 = .ok (.iload_n 2, 1) := by decide +kernel
theorem dX5_addSaid_33 : decode cX5_addSaid 33 = .ok (.invokestatic 53, 3) := by decide +kernel
theorem dX5_addSaid_36 : decode cX5_addSaid 36 = .ok (.aload_n 0, 1) := by decide +kernel
theorem dX5_addSaid_37 : decode cX5_addSaid 37 = .ok (.dup, 1) := by decide +kernel
theorem dX5_addSaid_38 : decode cX5_addSaid 38 = .ok (.getfield 40, 3) := by decide +kernel
theorem dX5_addSaid_41 : decode cX5_addSaid 41 = .ok (.iconst 1, 1) := by decide +kernel
theorem dX5_addSaid_42 : decode cX5_addSaid 42 = .ok (.iadd, 1) := by decide +kernel
theorem dX5_addSaid_43 : decode cX5_addSaid 43 = .ok (.putfield 40, 3) := by decide +kernel
theorem dX5_addSaid_46 : decode cX5_addSaid 46 = .ok (.aload_n 0, 1) := by decide +kernel
theorem dX5_addSaid_47 : decode cX5_addSaid 47 = .ok (.getfield 40, 3) := by decide +kernel
theorem dX5_addSaid_50 : decode cX5_addSaid 50 = .ok (.ireturn, 1) := by decide +kernel
theorem BX5_addSaid_0 {d bc bs : Nat} {h : aH} {n : Nat} {Q : aQ} {ar0 : Nat} {x1 x2 v3 : Int} {f1 : List aV} (h2 : h ar0 = cO 5 f1) (g4 : f1[9]? = some (vI v3)) (kt : v3 < 8 → Rn d bc bs mX5_addSaid 12 [some (vR (some ar0)), some (vI x1), some (vI x2)] [] h n Q) (kf : 8 ≤ v3 → Rn d bc bs mX5_addSaid 9 [some (vR (some ar0)), some (vI x1), some (vI x2)] [] h n Q) : Rn d (bc) (bs) mX5_addSaid 0 [some (vR (some ar0)), some (vI x1), some (vI x2)] [] h n Q := by
  refine Rn_aload_n dX5_addSaid_0 rfl rfl rfl ?_
  refine Rn_getfield (ci := 5) (k := 9) dX5_addSaid_1 rfl in_5 (Nat.le_of_ble_eq_true rfl) wd_259 rfl h2 g4 ?_
  refine Rn_bipush dX5_addSaid_4 rfl ?_
  refine Rn_icmplt (tgt := 12) dX5_addSaid_6 rfl ?_ ?_
  · exact kt
  · exact kf
theorem BX5_addSaid_9 {d bc bs : Nat} {h : aH} {n : Nat} {Q : aQ} {r0 : Option Nat} {x1 x2 : Int} (k : Q (some (vI (-2))) h n) : Rn d (bc) (bs) mX5_addSaid 9 [some (vR r0), some (vI x1), some (vI x2)] [] h n Q := by
  refine Rn_bipush dX5_addSaid_9 rfl ?_
  exact Rn_ireturn rfl dX5_addSaid_11 k
theorem BX5_addSaid_12 {d bc bs : Nat} {h : aH} {n : Nat} {Q : aQ} {ar0 : Nat} {x1 x2 v5 : Int} {f1 : List aV} {t3 : Option Nat} (h2 : h ar0 = cO 5 f1) (g4 : f1[5]? = some (vR t3)) (g6 : f1[9]? = some (vI v5)) (k : Rn d 0 0 mX12_setCell 0 [some (vR t3), some (vI v5), some (vI x1)] [] h n (fun v h1 n1 => Rn (d + 1) bc bs mX5_addSaid 24 [some (vR (some ar0)), some (vI x1), some (vI x2)] (v.toList ++ []) h1 n1 Q)) : Rn (d + 1) (bc) (bs) mX5_addSaid 12 [some (vR (some ar0)), some (vI x1), some (vI x2)] [] h n Q := by
  refine Rn_aload_n dX5_addSaid_12 rfl rfl rfl ?_
  refine Rn_getfield (ci := 5) (k := 5) dX5_addSaid_13 rfl in_5 (Nat.le_of_ble_eq_true rfl) wd_252 rfl h2 g4 ?_
  refine Rn_aload_n dX5_addSaid_16 rfl rfl rfl ?_
  refine Rn_getfield (ci := 5) (k := 9) dX5_addSaid_17 rfl in_5 (Nat.le_of_ble_eq_true rfl) wd_259 rfl h2 g6 ?_
  refine Rn_iload_n dX5_addSaid_20 rfl rfl ?_
  exact Rn_callS (avs := [vR t3, vI v5, vI x1]) (st := []) (bc1 := 0) (bs1 := 0) (bc2 := bc) (bs2 := bs) fx_X12_setCell dX5_addSaid_21 (Or.inr ⟨"BottledPost", List.mem_of_getElem? (i := 24) rfl⟩) wd_164 rfl (Nat.le_of_ble_eq_true rfl) (Nat.le_of_ble_eq_true rfl) (by omega) (by omega) (ls1 := [some (vR t3), some (vI v5), some (vI x1)]) rfl k
theorem BX5_addSaid_24 {d bc bs : Nat} {h : aH} {n : Nat} {Q : aQ} {ar0 : Nat} {x1 x2 v5 : Int} {f1 : List aV} {t3 : Option Nat} (h2 : h ar0 = cO 5 f1) (g4 : f1[6]? = some (vR t3)) (g6 : f1[9]? = some (vI v5)) (k : Rn d 0 0 mX12_setCell 0 [some (vR t3), some (vI v5), some (vI x2)] [] h n (fun v h1 n1 => Rn (d + 1) bc bs mX5_addSaid 36 [some (vR (some ar0)), some (vI x1), some (vI x2)] (v.toList ++ []) h1 n1 Q)) : Rn (d + 1) (bc) (bs) mX5_addSaid 24 [some (vR (some ar0)), some (vI x1), some (vI x2)] [] h n Q := by
  refine Rn_aload_n dX5_addSaid_24 rfl rfl rfl ?_
  refine Rn_getfield (ci := 5) (k := 6) dX5_addSaid_25 rfl in_5 (Nat.le_of_ble_eq_true rfl) wd_253 rfl h2 g4 ?_
  refine Rn_aload_n dX5_addSaid_28 rfl rfl rfl ?_
  refine Rn_getfield (ci := 5) (k := 9) dX5_addSaid_29 rfl in_5 (Nat.le_of_ble_eq_true rfl) wd_259 rfl h2 g6 ?_
  refine Rn_iload_n dX5_addSaid_32 rfl rfl ?_
  exact Rn_callS (avs := [vR t3, vI v5, vI x2]) (st := []) (bc1 := 0) (bs1 := 0) (bc2 := bc) (bs2 := bs) fx_X12_setCell dX5_addSaid_33 (Or.inr ⟨"BottledPost", List.mem_of_getElem? (i := 24) rfl⟩) wd_164 rfl (Nat.le_of_ble_eq_true rfl) (Nat.le_of_ble_eq_true rfl) (by omega) (by omega) (ls1 := [some (vR t3), some (vI v5), some (vI x2)]) rfl k
theorem BX5_addSaid_36 {d bc bs : Nat} {h : aH} {n : Nat} {Q : aQ} {ar0 : Nat} {x1 x2 v3 : Int} {f1 : List aV} (h2 : h ar0 = cO 5 f1) (g4 : f1[9]? = some (vI v3)) (b5 : -2147483648 ≤ v3 + 1 ∧ v3 + 1 < 2147483648) (m6 : 9 < f1.length) (k : Rn d bc bs mX5_addSaid 46 [some (vR (some ar0)), some (vI x1), some (vI x2)] [] (up h ar0 (cO 5 (f1.set 9 (vI (v3 + 1))))) n Q) : Rn d (bc) (bs) mX5_addSaid 36 [some (vR (some ar0)), some (vI x1), some (vI x2)] [] h n Q := by
  refine Rn_aload_n dX5_addSaid_36 rfl rfl rfl ?_
  refine Rn_dup dX5_addSaid_37 rfl ?_
  refine Rn_getfield (ci := 5) (k := 9) dX5_addSaid_38 rfl in_5 (Nat.le_of_ble_eq_true rfl) wd_259 rfl h2 g4 ?_
  refine Rn_iconst dX5_addSaid_41 rfl ?_
  refine Rn_iadd dX5_addSaid_42 ?_
  rw [w32_id b5.1 b5.2]
  refine Rn_putfield (ci := 5) (k := 9) dX5_addSaid_43 rfl in_5 tyX5_ok nmX5 (Nat.le_of_ble_eq_true rfl) wd_259 rfl (Or.inl rfl) trivial m6 h2 ?_
  exact k
theorem BX5_addSaid_46 {d bc bs : Nat} {h : aH} {n : Nat} {Q : aQ} {ar0 : Nat} {x1 x2 v3 : Int} {f1 : List aV} (h2 : h ar0 = cO 5 f1) (g4 : f1[9]? = some (vI v3)) (k : Q (some (vI v3)) h n) : Rn d (bc) (bs) mX5_addSaid 46 [some (vR (some ar0)), some (vI x1), some (vI x2)] [] h n Q := by
  refine Rn_aload_n dX5_addSaid_46 rfl rfl rfl ?_
  refine Rn_getfield (ci := 5) (k := 9) dX5_addSaid_47 rfl in_5 (Nat.le_of_ble_eq_true rfl) wd_259 rfl h2 g4 ?_
  exact Rn_ireturn rfl dX5_addSaid_50 k
theorem dX5_saidBottle_0 : decode cX5_saidBottle 0 = .ok (.aload_n 0, 1) := by decide +kernel
theorem dX5_saidBottle_1 : decode cX5_saidBottle 1 = .ok (.getfield 27, 3) := by decide +kernel
theorem dX5_saidBottle_4 : decode cX5_saidBottle 4 = .ok (.iload_n 1, 1) := by decide +kernel
theorem dX5_saidBottle_5 : decode cX5_saidBottle 5 = .ok (.invokestatic 57, 3) := by decide +kernel
theorem dX5_saidBottle_8 : decode cX5_saidBottle 8 = .ok (.ireturn, 1) := by decide +kernel
theorem BX5_saidBottle_0 {d bc bs : Nat} {h : aH} {n : Nat} {Q : aQ} {ar0 : Nat} {x1 : Int} {f1 : List aV} {t3 : Option Nat} (h2 : h ar0 = cO 5 f1) (g4 : f1[5]? = some (vR t3)) (k : Rn d 0 0 mX12_cell 0 [some (vR t3), some (vI x1)] [] h n (fun v h1 n1 => Rn (d + 1) bc bs mX5_saidBottle 8 [some (vR (some ar0)), some (vI x1)] (v.toList ++ []) h1 n1 Q)) : Rn (d + 1) (bc) (bs) mX5_saidBottle 0 [some (vR (some ar0)), some (vI x1)] [] h n Q := by
  refine Rn_aload_n dX5_saidBottle_0 rfl rfl rfl ?_
  refine Rn_getfield (ci := 5) (k := 5) dX5_saidBottle_1 rfl in_5 (Nat.le_of_ble_eq_true rfl) wd_252 rfl h2 g4 ?_
  refine Rn_iload_n dX5_saidBottle_4 rfl rfl ?_
  exact Rn_callS (avs := [vR t3, vI x1]) (st := []) (bc1 := 0) (bs1 := 0) (bc2 := bc) (bs2 := bs) fx_X12_cell dX5_saidBottle_5 (Or.inr ⟨"BottledPost", List.mem_of_getElem? (i := 25) rfl⟩) wd_967 rfl (Nat.le_of_ble_eq_true rfl) (Nat.le_of_ble_eq_true rfl) (by omega) (by omega) (ls1 := [some (vR t3), some (vI x1)]) rfl k
theorem BX5_saidBottle_8 {d bc bs : Nat} {h : aH} {n : Nat} {Q : aQ} {r0 : Option Nat} {x1 s0 : Int} (k : Q (some (vI s0)) h n) : Rn d (bc) (bs) mX5_saidBottle 8 [some (vR r0), some (vI x1)] [vI s0] h n Q := by
  exact Rn_ireturn rfl dX5_saidBottle_8 k
theorem dX5_saidComes_0 : decode cX5_saidComes 0 = .ok (.aload_n 0, 1) := by decide +kernel
theorem dX5_saidComes_1 : decode cX5_saidComes 1 = .ok (.getfield 30, 3) := by decide +kernel
theorem dX5_saidComes_4 : decode cX5_saidComes 4 = .ok (.iload_n 1, 1) := by decide +kernel
theorem dX5_saidComes_5 : decode cX5_saidComes 5 = .ok (.invokestatic 57, 3) := by decide +kernel
theorem dX5_saidComes_8 : decode cX5_saidComes 8 = .ok (.ireturn, 1) := by decide +kernel
theorem BX5_saidComes_0 {d bc bs : Nat} {h : aH} {n : Nat} {Q : aQ} {ar0 : Nat} {x1 : Int} {f1 : List aV} {t3 : Option Nat} (h2 : h ar0 = cO 5 f1) (g4 : f1[6]? = some (vR t3)) (k : Rn d 0 0 mX12_cell 0 [some (vR t3), some (vI x1)] [] h n (fun v h1 n1 => Rn (d + 1) bc bs mX5_saidComes 8 [some (vR (some ar0)), some (vI x1)] (v.toList ++ []) h1 n1 Q)) : Rn (d + 1) (bc) (bs) mX5_saidComes 0 [some (vR (some ar0)), some (vI x1)] [] h n Q := by
  refine Rn_aload_n dX5_saidComes_0 rfl rfl rfl ?_
  refine Rn_getfield (ci := 5) (k := 6) dX5_saidComes_1 rfl in_5 (Nat.le_of_ble_eq_true rfl) wd_253 rfl h2 g4 ?_
  refine Rn_iload_n dX5_saidComes_4 rfl rfl ?_
  exact Rn_callS (avs := [vR t3, vI x1]) (st := []) (bc1 := 0) (bs1 := 0) (bc2 := bc) (bs2 := bs) fx_X12_cell dX5_saidComes_5 (Or.inr ⟨"BottledPost", List.mem_of_getElem? (i := 25) rfl⟩) wd_967 rfl (Nat.le_of_ble_eq_true rfl) (Nat.le_of_ble_eq_true rfl) (by omega) (by omega) (ls1 := [some (vR t3), some (vI x1)]) rfl k
theorem BX5_saidComes_8 {d bc bs : Nat} {h : aH} {n : Nat} {Q : aQ} {r0 : Option Nat} {x1 s0 : Int} (k : Q (some (vI s0)) h n) : Rn d (bc) (bs) mX5_saidComes 8 [some (vR r0), some (vI x1)] [vI s0] h n Q := by
  exact Rn_ireturn rfl dX5_saidComes_8 k
