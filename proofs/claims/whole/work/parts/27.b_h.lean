theorem dX13_opened_0 : decode cX13_opened 0 = .ok (.aload_n 0, 1) := by decide +kernel
theorem dX13_opened_1 : decode cX13_opened 1 = .ok (.getfield 158, 3) := by decide +kernel
theorem dX13_opened_4 : decode cX13_opened 4 = .ok (.bipush 8, 2) := by decide +kernel
theorem dX13_opened_6 : decode cX13_opened 6 = .ok (.if_icmp .ne 5, 3) := by decide +kernel
theorem dX13_opened_9 : decode cX13_opened 9 = .ok (.iconst 3, 1) := by decide +kernel
theorem dX13_opened_10 : decode cX13_opened 10 = .ok (.ireturn, 1) := by decide +kernel
theorem dX13_opened_11 : decode cX13_opened 11 = .ok (.aload_n 0, 1) := by decide +kernel
theorem dX13_opened_12 : decode cX13_opened 12 = .ok (.dup, 1) := by decide +kernel
theorem dX13_opened_13 : decode cX13_opened 13 = .ok (.getfield 158, 3) := by decide +kernel
theorem dX13_opened_16 : decode cX13_opened 16 = .ok (.iconst 1, 1) := by decide +kernel
theorem dX13_opened_17 : decode cX13_opened 17 = .ok (.iadd, 1) := by decide +kernel
theorem dX13_opened_18 : decode cX13_opened 18 = .ok (.putfield 158, 3) := by decide +kernel
theorem dX13_opened_21 : decode cX13_opened 21 = .ok (.aload_n 0, 1) := by decide +kernel
theorem dX13_opened_22 : decode cX13_opened 22 = .ok (.getfield 29, 3) := by decide +kernel
theorem dX13_opened_25 : decode cX13_opened 25 = .ok (.aload_n 0, 1) := by decide +kernel
theorem dX13_opened_26 : decode cX13_opened 26 = .ok (.getfield 148, 3) := by decide +kernel
theorem dX13_opened_29 : decode cX13_opened 29 = .ok (.iload_n 1, 1) := by decide +kernel
theorem dX13_opened_30 : decode cX13_opened 30 = .ok (.iastore, 1) := by decide +kernel
theorem dX13_opened_31 : decode cX13_opened 31 = .ok (.aload_n 0, 1) := by decide +kernel
theorem dX13_opened_32 : decode cX13_opened 32 = .ok (.dup, 1) := by decide +kernel
theorem dX13_opened_33 : decode cX13_opened 33 = .ok (.getfield 148, 3) := by decide +kernel
theorem dX13_opened_36 : decode cX13_opened 36 = .ok (.iconst 1, 1) := by decide +kernel
theorem dX13_opened_37 : decode cX13_opened 37 = .ok (.iadd, 1) := by decide +kernel
theorem dX13_opened_38 : decode cX13_opened 38 = .ok (.putfield 148, 3) := by decide +kernel
theorem dX13_opened_41 : decode cX13_opened 41 = .ok (.aload_n 0, 1) := by decide +kernel
theorem dX13_opened_42 : decode cX13_opened 42 = .ok (.invokevirtual 168, 3) := by decide +kernel
theorem dX13_opened_45 : decode cX13_opened 45 = .ok (.iconst 0, 1) := by decide +kernel
theorem dX13_opened_46 : decode cX13_opened 46 = .ok (.ireturn, 1) := by decide +kernel
theorem BX13_opened_0 {d bc bs : Nat} {h : aH} {n : Nat} {Q : aQ} {ar0 : Nat} {x1 v3 : Int} {f1 : List aV} (h2 : h ar0 = cO 13 f1) (g4 : f1[17]? = some (vI v3)) (kt : v3 ≠ 8 → Rn d bc bs mX13_opened 11 [some (vR (some ar0)), some (vI x1)] [] h n Q) (kf : v3 = 8 → Rn d bc bs mX13_opened 9 [some (vR (some ar0)), some (vI x1)] [] h n Q) : Rn d (bc) (bs) mX13_opened 0 [some (vR (some ar0)), some (vI x1)] [] h n Q := by
  refine Rn_aload_n dX13_opened_0 rfl rfl rfl ?_
  refine Rn_getfield (ci := 13) (k := 17) dX13_opened_1 rfl in_13 (Nat.le_of_ble_eq_true rfl) wd_1369 rfl h2 g4 ?_
  refine Rn_bipush dX13_opened_4 rfl ?_
  refine Rn_icmpne (tgt := 11) dX13_opened_6 rfl ?_ ?_
  · exact kt
  · exact kf
theorem BX13_opened_9 {d bc bs : Nat} {h : aH} {n : Nat} {Q : aQ} {r0 : Option Nat} {x1 : Int} (k : Q (some (vI 3)) h n) : Rn d (bc) (bs) mX13_opened 9 [some (vR r0), some (vI x1)] [] h n Q := by
  refine Rn_iconst dX13_opened_9 rfl ?_
  exact Rn_ireturn rfl dX13_opened_10 k
theorem BX13_opened_11 {d bc bs : Nat} {h : aH} {n : Nat} {Q : aQ} {ar0 : Nat} {x1 v3 : Int} {f1 : List aV} (h2 : h ar0 = cO 13 f1) (g4 : f1[17]? = some (vI v3)) (b5 : -2147483648 ≤ v3 + 1 ∧ v3 + 1 < 2147483648) (m6 : 17 < f1.length) (k : Rn d bc bs mX13_opened 21 [some (vR (some ar0)), some (vI x1)] [] (up h ar0 (cO 13 (f1.set 17 (vI (v3 + 1))))) n Q) : Rn d (bc) (bs) mX13_opened 11 [some (vR (some ar0)), some (vI x1)] [] h n Q := by
  refine Rn_aload_n dX13_opened_11 rfl rfl rfl ?_
  refine Rn_dup dX13_opened_12 rfl ?_
  refine Rn_getfield (ci := 13) (k := 17) dX13_opened_13 rfl in_13 (Nat.le_of_ble_eq_true rfl) wd_1369 rfl h2 g4 ?_
  refine Rn_iconst dX13_opened_16 rfl ?_
  refine Rn_iadd dX13_opened_17 ?_
  rw [w32_id b5.1 b5.2]
  refine Rn_putfield (ci := 13) (k := 17) dX13_opened_18 rfl in_13 tyX13_ok nmX13 (Nat.le_of_ble_eq_true rfl) wd_1369 rfl (Or.inl rfl) trivial m6 h2 ?_
  exact k
theorem BX13_opened_21 {d bc bs : Nat} {h : aH} {n : Nat} {Q : aQ} {ar0 at3 : Nat} {x1 v5 : Int} {f1 : List aV} {w7 : List Int} (h2 : h ar0 = cO 13 f1) (g4 : f1[15]? = some (vR (some at3))) (g6 : f1[16]? = some (vI v5)) (h8 : h at3 = cI w7) (i9 : 0 ≤ v5) (j10 : v5 < w7.length) (z11 : at3 ≠ 0) (k : Rn d bc bs mX13_opened 31 [some (vR (some ar0)), some (vI x1)] [] (up h at3 (cI (w7.set (v5 : Int).toNat x1))) n Q) : Rn d (bc) (bs) mX13_opened 21 [some (vR (some ar0)), some (vI x1)] [] h n Q := by
  refine Rn_aload_n dX13_opened_21 rfl rfl rfl ?_
  refine Rn_getfield (ci := 13) (k := 15) dX13_opened_22 rfl in_13 (Nat.le_of_ble_eq_true rfl) wd_1367 rfl h2 g4 ?_
  refine Rn_aload_n dX13_opened_25 rfl rfl rfl ?_
  refine Rn_getfield (ci := 13) (k := 16) dX13_opened_26 rfl in_13 (Nat.le_of_ble_eq_true rfl) wd_1368 rfl h2 g6 ?_
  refine Rn_iload_n dX13_opened_29 rfl rfl ?_
  refine Rn_iastore dX13_opened_30 z11 h8 i9 j10 ?_
  exact k
theorem BX13_opened_31 {d bc bs : Nat} {h : aH} {n : Nat} {Q : aQ} {ar0 : Nat} {x1 v3 : Int} {f1 : List aV} (h2 : h ar0 = cO 13 f1) (g4 : f1[16]? = some (vI v3)) (b5 : -2147483648 ≤ v3 + 1 ∧ v3 + 1 < 2147483648) (m6 : 16 < f1.length) (k : Rn d bc bs mX13_opened 41 [some (vR (some ar0)), some (vI x1)] [] (up h ar0 (cO 13 (f1.set 16 (vI (v3 + 1))))) n Q) : Rn d (bc) (bs) mX13_opened 31 [some (vR (some ar0)), some (vI x1)] [] h n Q := by
  refine Rn_aload_n dX13_opened_31 rfl rfl rfl ?_
  refine Rn_dup dX13_opened_32 rfl ?_
  refine Rn_getfield (ci := 13) (k := 16) dX13_opened_33 rfl in_13 (Nat.le_of_ble_eq_true rfl) wd_1368 rfl h2 g4 ?_
  refine Rn_iconst dX13_opened_36 rfl ?_
  refine Rn_iadd dX13_opened_37 ?_
  rw [w32_id b5.1 b5.2]
  refine Rn_putfield (ci := 13) (k := 16) dX13_opened_38 rfl in_13 tyX13_ok nmX13 (Nat.le_of_ble_eq_true rfl) wd_1368 rfl (Or.inl rfl) trivial m6 h2 ?_
  exact k
theorem BX13_opened_41 {d bc bs : Nat} {h : aH} {n : Nat} {Q : aQ} {ar0 : Nat} {x1 : Int} {f1 : List aV} (h2 : h ar0 = cO 13 f1) (k : Rn d 0 0 mX13_nextToken 0 [some (vR (some ar0)), none] [] h n (fun v h1 n1 => Rn (d + 1) bc bs mX13_opened 45 [some (vR (some ar0)), some (vI x1)] (v.toList ++ []) h1 n1 Q)) : Rn (d + 1) (bc) (bs) mX13_opened 41 [some (vR (some ar0)), some (vI x1)] [] h n Q := by
  refine Rn_aload_n dX13_opened_41 rfl rfl rfl ?_
  exact Rn_callV (ci := 13) (avs := []) (st := []) (bc1 := 0) (bs1 := 0) (bc2 := bc) (bs2 := bs) fx_X13_nextToken dX13_opened_42 wd_1490 wd_1492 wd_47 rfl h2 rfl (Nat.le_of_ble_eq_true rfl) (Nat.le_of_ble_eq_true rfl) (by omega) (by omega) (ls1 := [some (vR (some ar0)), none]) rfl k
theorem BX13_opened_45 {d bc bs : Nat} {h : aH} {n : Nat} {Q : aQ} {r0 : Option Nat} {x1 : Int} (k : Q (some (vI 0)) h n) : Rn d (bc) (bs) mX13_opened 45 [some (vR r0), some (vI x1)] [] h n Q := by
  refine Rn_iconst dX13_opened_45 rfl ?_
  exact Rn_ireturn rfl dX13_opened_46 k
theorem dX13_beginOne_0 : decode cX13_beginOne 0 = .ok (.aload_n 0, 1) := by decide +kernel
theorem dX13_beginOne_1 : decode cX13_beginOne 1 = .ok (.getfield 104, 3) := by decide +kernel
theorem dX13_beginOne_4 : decode cX13_beginOne 4 = .ok (.iconst 1, 1) := by decide +kernel
theorem dX13_beginOne_5 : decode cX13_beginOne 5 = .ok (.if_icmp .ne 15, 3) := by decide +kernel
theorem dX13_beginOne_8 : decode cX13_beginOne 8 = .ok (.aload_n 0, 1) := by decide +kernel
theorem dX13_beginOne_9 : decode cX13_beginOne 9 = .ok (.getfield 110, 3) := by decide +kernel
theorem dX13_beginOne_12 : decode cX13_beginOne 12 = .ok (.sipush 9999, 3) := by decide +kernel
theorem dX13_beginOne_15 : decode cX13_beginOne 15 = .ok (.if_icmp .le 5, 3) := by decide +kernel
theorem dX13_beginOne_18 : decode cX13_beginOne 18 = .ok (.iconst 2, 1) := by decide +kernel
theorem dX13_beginOne_19 : decode cX13_beginOne 19 = .ok (.ireturn, 1) := by decide +kernel
theorem dX13_beginOne_20 : decode cX13_beginOne 20 = .ok (.aload_n 0, 1) := by decide +kernel
theorem dX13_beginOne_21 : decode cX13_beginOne 21 = .ok (.invokevirtual 171, 3) := by decide +kernel
theorem dX13_beginOne_24 : decode cX13_beginOne 24 = .ok (.istore_n 1, 1) := by decide +kernel
theorem dX13_beginOne_25 : decode cX13_beginOne 25 = .ok (.iload_n 1, 1) := by decide +kernel
theorem dX13_beginOne_26 : decode cX13_beginOne 26 = .ok (.bipush 7, 2) := by decide +kernel
theorem dX13_beginOne_28 : decode cX13_beginOne 28 = .ok (.if_icmp .ne 12, 3) := by decide +kernel
theorem dX13_beginOne_31 : decode cX13_beginOne 31 = .ok (.aload_n 0, 1) := by decide +kernel
theorem dX13_beginOne_32 : decode cX13_beginOne 32 = .ok (.getfield 174, 3) := by decide +kernel
theorem dX13_beginOne_35 : decode cX13_beginOne 35 = .ok (.ifCond .eq 5, 3) := by decide +kernel
theorem dX13_beginOne_38 : decode cX13_beginOne 38 = .ok (.iconst 5, 1) := by decide +kernel
theorem dX13_beginOne_39 : decode cX13_beginOne 39 = .ok (.ireturn, 1) := by decide +kernel
theorem dX13_beginOne_40 : decode cX13_beginOne 40 = .ok (.aload_n 0, 1) := by decide +kernel
theorem dX13_beginOne_41 : decode cX13_beginOne 41 = .ok (.getfield 104, 3) := by decide +kernel
theorem dX13_beginOne_44 : decode cX13_beginOne 44 = .ok (.iconst 1, 1) := by decide +kernel
theorem dX13_beginOne_45 : decode cX13_beginOne 45 = .ok (.if_icmp .eq 7, 3) := by decide +kernel
theorem dX13_beginOne_48 : decode cX13_beginOne 48 = .ok (.iload_n 1, 1) := by decide +kernel
theorem dX13_beginOne_49 : decode cX13_beginOne 49 = .ok (.ifCond .lt 45, 3) := by decide +kernel
theorem dX13_beginOne_52 : decode cX13_beginOne 52 = .ok (.aload_n 0, 1) := by decide +kernel
theorem dX13_beginOne_53 : decode cX13_beginOne 53 = .ok (.aload_n 0, 1) := by decide +kernel
theorem dX13_beginOne_54 : decode cX13_beginOne 54 = .ok (.getfield 104, 3) := by decide +kernel
theorem dX13_beginOne_57 : decode cX13_beginOne 57 = .ok (.iconst 1, 1) := by decide +kernel
theorem dX13_beginOne_58 : decode cX13_beginOne 58 = .ok (.if_icmp .ne 7, 3) := by decide +kernel
theorem dX13_beginOne_61 : decode cX13_beginOne 61 = .ok (.iconst 0, 1) := by decide +kernel
theorem dX13_beginOne_62 : decode cX13_beginOne 62 = .ok (.goto 4, 3) := by decide +kernel
theorem dX13_beginOne_65 : decode cX13_beginOne 65 = .ok (.iconst 1, 1) := by decide +kernel
theorem dX13_beginOne_66 : decode cX13_beginOne 66 = .ok (.aload_n 0, 1) := by decide +kernel
theorem dX13_beginOne_67 : decode cX13_beginOne 67 = .ok (.getfield 104, 3) := by decide +kernel
theorem dX13_beginOne_70 : decode cX13_beginOne 70 = .ok (.iconst 1, 1) := by decide +kernel
theorem dX13_beginOne_71 : decode cX13_beginOne 71 = .ok (.if_icmp .ne 10, 3) := by decide +kernel
theorem dX13_beginOne_74 : decode cX13_beginOne 74 = .ok (.aload_n 0, 1) := by decide +kernel
theorem dX13_beginOne_75 : decode cX13_beginOne 75 = .ok (.getfield 110, 3) := by decide +kernel
theorem dX13_beginOne_78 : decode cX13_beginOne 78 = .ok (.goto 4, 3) := by decide +kernel
theorem dX13_beginOne_81 : decode cX13_beginOne 81 = .ok (.iload_n 1, 1) := by decide +kernel
theorem dX13_beginOne_82 : decode cX13_beginOne 82 = .ok (.invokevirtual 154, 3) := by decide +kernel
theorem dX13_beginOne_85 : decode cX13_beginOne 85 = .ok (.aload_n 0, 1) := by decide +kernel
theorem dX13_beginOne_86 : decode cX13_beginOne 86 = .ok (.invokevirtual 168, 3) := by decide +kernel
theorem dX13_beginOne_89 : decode cX13_beginOne 89 = .ok (.aload_n 0, 1) := by decide +kernel
theorem dX13_beginOne_90 : decode cX13_beginOne 90 = .ok (.invokevirtual 177, 3) := by decide +kernel
theorem dX13_beginOne_93 : decode cX13_beginOne 93 = .ok (.ireturn, 1) := by decide +kernel
theorem dX13_beginOne_94 : decode cX13_beginOne 94 = .ok (.aload_n 0, 1) := by decide +kernel
theorem dX13_beginOne_95 : decode cX13_beginOne 95 = .ok (.getfield 104, 3) := by decide +kernel
theorem dX13_beginOne_98 : decode cX13_beginOne 98 = .ok (.bipush 40, 2) := by decide +kernel
theorem dX13_beginOne_100 : decode cX13_beginOne 100 = .ok (.if_icmp .ne 10, 3) := by decide +kernel
theorem dX13_beginOne_103 : decode cX13_beginOne 103 = .ok (.aload_n 0, 1) := by decide +kernel
theorem dX13_beginOne_104 : decode cX13_beginOne 104 = .ok (.bipush 40, 2) := by decide +kernel
theorem dX13_beginOne_106 : decode cX13_beginOne 106 = .ok (.invokevirtual 180, 3) := by decide +kernel
theorem dX13_beginOne_109 : decode cX13_beginOne 109 = .ok (.ireturn, 1) := by decide +kernel
theorem dX13_beginOne_110 : decode cX13_beginOne 110 = .ok (.aload_n 0, 1) := by decide +kernel
theorem dX13_beginOne_111 : decode cX13_beginOne 111 = .ok (.getfield 104, 3) := by decide +kernel
theorem dX13_beginOne_114 : decode cX13_beginOne 114 = .ok (.bipush 45, 2) := by decide +kernel
theorem dX13_beginOne_116 : decode cX13_beginOne 116 = .ok (.if_icmp .ne 9, 3) := by decide +kernel
theorem dX13_beginOne_119 : decode cX13_beginOne 119 = .ok (.aload_n 0, 1) := by decide +kernel
theorem dX13_beginOne_120 : decode cX13_beginOne 120 = .ok (.iconst 5, 1) := by decide +kernel
theorem dX13_beginOne_121 : decode cX13_beginOne 121 = .ok (.invokevirtual 180, 3) := by decide +kernel
theorem dX13_beginOne_124 : decode cX13_beginOne 124 = .ok (.ireturn, 1) := by decide +kernel
theorem dX13_beginOne_125 : decode cX13_beginOne 125 = .ok (.aload_n 0, 1) := by decide +kernel
theorem dX13_beginOne_126 : decode cX13_beginOne 126 = .ok (.bipush 108, 2) := by decide +kernel
theorem dX13_beginOne_128 : decode cX13_beginOne 128 = .ok (.bipush 97, 2) := by decide +kernel
theorem dX13_beginOne_130 : decode cX13_beginOne 130 = .ok (.bipush 116, 2) := by decide +kernel
theorem dX13_beginOne_132 : decode cX13_beginOne 132 = .ok (.bipush 101, 2) := by decide +kernel
theorem dX13_beginOne_134 : decode cX13_beginOne 134 = .ok (.bipush 114, 2) := by decide +kernel
theorem dX13_beginOne_136 : decode cX13_beginOne 136 = .ok (.invokestatic 138, 3) := by decide +kernel
theorem dX13_beginOne_139 : decode cX13_beginOne 139 = .ok (.invokevirtual 183, 3) := by decide +kernel
theorem dX13_beginOne_142 : decode cX13_beginOne 142 = .ok (.ifCond .eq 10, 3) := by decide +kernel
theorem dX13_beginOne_145 : decode cX13_beginOne 145 = .ok (.aload_n 0, 1) := by decide +kernel
theorem dX13_beginOne_146 : decode cX13_beginOne 146 = .ok (.bipush 41, 2) := by decide +kernel
theorem dX13_beginOne_148 : decode cX13_beginOne 148 = .ok (.invokevirtual 180, 3) := by decide +kernel
theorem dX13_beginOne_151 : decode cX13_beginOne 151 = .ok (.ireturn, 1) := by decide +kernel
theorem dX13_beginOne_152 : decode cX13_beginOne 152 = .ok (.aload_n 0, 1) := by decide +kernel
theorem dX13_beginOne_153 : decode cX13_beginOne 153 = .ok (.bipush 112, 2) := by decide +kernel
theorem dX13_beginOne_155 : decode cX13_beginOne 155 = .ok (.bipush 108, 2) := by decide +kernel
theorem dX13_beginOne_157 : decode cX13_beginOne 157 = .ok (.bipush 97, 2) := by decide +kernel
theorem dX13_beginOne_159 : decode cX13_beginOne 159 = .ok (.bipush 99, 2) := by decide +kernel
theorem dX13_beginOne_161 : decode cX13_beginOne 161 = .ok (.bipush 101, 2) := by decide +kernel
theorem dX13_beginOne_163 : decode cX13_beginOne 163 = .ok (.bipush 115, 2) := by decide +kernel
theorem dX13_beginOne_165 : decode cX13_beginOne 165 = .ok (.invokestatic 187, 3) := by decide +kernel
theorem dX13_beginOne_168 : decode cX13_beginOne 168 = .ok (.invokevirtual 183, 3) := by decide +kernel
theorem dX13_beginOne_171 : decode cX13_beginOne 171 = .ok (.ifCond .eq 9, 3) := by decide +kernel
theorem dX13_beginOne_174 : decode cX13_beginOne 174 = .ok (.aload_n 0, 1) := by decide +kernel
theorem dX13_beginOne_175 : decode cX13_beginOne 175 = .ok (.iconst 2, 1) := by decide +kernel
theorem dX13_beginOne_176 : decode cX13_beginOne 176 = .ok (.invokevirtual 180, 3) := by decide +kernel
theorem dX13_beginOne_179 : decode cX13_beginOne 179 = .ok (.ireturn, 1) := by decide +kernel
theorem dX13_beginOne_180 : decode cX13_beginOne 180 = .ok (.aload_n 0, 1) := by decide +kernel
theorem dX13_beginOne_181 : decode cX13_beginOne 181 = .ok (.bipush 105, 2) := by decide +kernel
theorem dX13_beginOne_183 : decode cX13_beginOne 183 = .ok (.bipush 102, 2) := by decide +kernel
theorem dX13_beginOne_185 : decode cX13_beginOne 185 = .ok (.invokestatic 126, 3) := by decide +kernel
theorem dX13_beginOne_188 : decode cX13_beginOne 188 = .ok (.invokevirtual 183, 3) := by decide +kernel
theorem dX13_beginOne_191 : decode cX13_beginOne 191 = .ok (.ifCond .eq 10, 3) := by decide +kernel
theorem dX13_beginOne_194 : decode cX13_beginOne 194 = .ok (.aload_n 0, 1) := by decide +kernel
theorem dX13_beginOne_195 : decode cX13_beginOne 195 = .ok (.bipush 42, 2) := by decide +kernel
theorem dX13_beginOne_197 : decode cX13_beginOne 197 = .ok (.invokevirtual 180, 3) := by decide +kernel
theorem dX13_beginOne_200 : decode cX13_beginOne 200 = .ok (.ireturn, 1) := by decide +kernel
theorem dX13_beginOne_201 : decode cX13_beginOne 201 = .ok (.aload_n 0, 1) := by decide +kernel
theorem dX13_beginOne_202 : decode cX13_beginOne 202 = .ok (.bipush 110, 2) := by decide +kernel
theorem dX13_beginOne_204 : decode cX13_beginOne 204 = .ok (.bipush 111, 2) := by decide +kernel
theorem dX13_beginOne_206 : decode cX13_beginOne 206 = .ok (.bipush 116, 2) := by decide +kernel
theorem dX13_beginOne_208 : decode cX13_beginOne 208 = .ok (.invokestatic 130, 3) := by decide +kernel
theorem dX13_beginOne_211 : decode cX13_beginOne 211 = .ok (.invokevirtual 183, 3) := by decide +kernel
theorem dX13_beginOne_214 : decode cX13_beginOne 214 = .ok (.ifCond .eq 19, 3) := by decide +kernel
theorem dX13_beginOne_217 : decode cX13_beginOne 217 = .ok (.aload_n 0, 1) := by decide +kernel
theorem dX13_beginOne_218 : decode cX13_beginOne 218 = .ok (.invokevirtual 191, 3) := by decide +kernel
theorem dX13_beginOne_221 : decode cX13_beginOne 221 = .ok (.ifCond .eq 12, 3) := by decide +kernel
theorem dX13_beginOne_224 : decode cX13_beginOne 224 = .ok (.aload_n 0, 1) := by decide +kernel
theorem dX13_beginOne_225 : decode cX13_beginOne 225 = .ok (.bipush 20, 2) := by decide +kernel
theorem dX13_beginOne_227 : decode cX13_beginOne 227 = .ok (.invokevirtual 180, 3) := by decide +kernel
theorem dX13_beginOne_230 : decode cX13_beginOne 230 = .ok (.goto 4, 3) := by decide +kernel
theorem dX13_beginOne_233 : decode cX13_beginOne 233 = .ok (.iconst 1, 1) := by decide +kernel
theorem dX13_beginOne_234 : decode cX13_beginOne 234 = .ok (.ireturn, 1) := by decide +kernel
theorem BX13_beginOne_0 {d bc bs : Nat} {h : aH} {n : Nat} {Q : aQ} {ar0 : Nat} {l1 : Option aV} {f1 : List aV} {v3 : Int} (h2 : h ar0 = cO 13 f1) (g4 : f1[9]? = some (vI v3)) (kt : v3 ≠ 1 → Rn d bc bs mX13_beginOne 20 [some (vR (some ar0)), l1] [] h n Q) (kf : v3 = 1 → Rn d bc bs mX13_beginOne 8 [some (vR (some ar0)), l1] [] h n Q) : Rn d (bc) (bs) mX13_beginOne 0 [some (vR (some ar0)), l1] [] h n Q := by
  refine Rn_aload_n dX13_beginOne_0 rfl rfl rfl ?_
  refine Rn_getfield (ci := 13) (k := 9) dX13_beginOne_1 rfl in_13 (Nat.le_of_ble_eq_true rfl) wd_1361 rfl h2 g4 ?_
  refine Rn_iconst dX13_beginOne_4 rfl ?_
  refine Rn_icmpne (tgt := 20) dX13_beginOne_5 rfl ?_ ?_
  · exact kt
  · exact kf
theorem BX13_beginOne_8 {d bc bs : Nat} {h : aH} {n : Nat} {Q : aQ} {ar0 : Nat} {l1 : Option aV} {f1 : List aV} {v3 : Int} (h2 : h ar0 = cO 13 f1) (g4 : f1[10]? = some (vI v3)) (kt : v3 ≤ 9999 → Rn d bc bs mX13_beginOne 20 [some (vR (some ar0)), l1] [] h n Q) (kf : 9999 < v3 → Rn d bc bs mX13_beginOne 18 [some (vR (some ar0)), l1] [] h n Q) : Rn d (bc) (bs) mX13_beginOne 8 [some (vR (some ar0)), l1] [] h n Q := by
  refine Rn_aload_n dX13_beginOne_8 rfl rfl rfl ?_
  refine Rn_getfield (ci := 13) (k := 10) dX13_beginOne_9 rfl in_13 (Nat.le_of_ble_eq_true rfl) wd_1362 rfl h2 g4 ?_
  refine Rn_sipush dX13_beginOne_12 rfl ?_
  refine Rn_icmple (tgt := 20) dX13_beginOne_15 rfl ?_ ?_
  · exact kt
  · exact kf
theorem BX13_beginOne_18 {d bc bs : Nat} {h : aH} {n : Nat} {Q : aQ} {r0 : Option Nat} {l1 : Option aV} (k : Q (some (vI 2)) h n) : Rn d (bc) (bs) mX13_beginOne 18 [some (vR r0), l1] [] h n Q := by
  refine Rn_iconst dX13_beginOne_18 rfl ?_
  exact Rn_ireturn rfl dX13_beginOne_19 k
theorem BX13_beginOne_20 {d bc bs : Nat} {h : aH} {n : Nat} {Q : aQ} {ar0 : Nat} {l1 : Option aV} {f1 : List aV} (h2 : h ar0 = cO 13 f1) (k : Rn d 0 0 mX13_nameOf 0 [some (vR (some ar0))] [] h n (fun v h1 n1 => Rn (d + 1) bc bs mX13_beginOne 24 [some (vR (some ar0)), l1] (v.toList ++ []) h1 n1 Q)) : Rn (d + 1) (bc) (bs) mX13_beginOne 20 [some (vR (some ar0)), l1] [] h n Q := by
  refine Rn_aload_n dX13_beginOne_20 rfl rfl rfl ?_
  exact Rn_callV (ci := 13) (avs := []) (st := []) (bc1 := 0) (bs1 := 0) (bc2 := bc) (bs2 := bs) fx_X13_nameOf dX13_beginOne_21 wd_1614 wd_1616 wd_70 rfl h2 rfl (Nat.le_of_ble_eq_true rfl) (Nat.le_of_ble_eq_true rfl) (by omega) (by omega) (ls1 := [some (vR (some ar0))]) rfl k
theorem BX13_beginOne_24 {d bc bs : Nat} {h : aH} {n : Nat} {Q : aQ} {r0 : Option Nat} {l1 : Option aV} {s0 : Int} (kt : s0 ≠ 7 → Rn d bc bs mX13_beginOne 40 [some (vR r0), some (vI s0)] [] h n Q) (kf : s0 = 7 → Rn d bc bs mX13_beginOne 31 [some (vR r0), some (vI s0)] [] h n Q) : Rn d (bc) (bs) mX13_beginOne 24 [some (vR r0), l1] [vI s0] h n Q := by
  refine Rn_istore_n dX13_beginOne_24 rfl (Nat.le_of_ble_eq_true rfl) rfl rfl ?_
  refine Rn_iload_n dX13_beginOne_25 rfl rfl ?_
  refine Rn_bipush dX13_beginOne_26 rfl ?_
  refine Rn_icmpne (tgt := 40) dX13_beginOne_28 rfl ?_ ?_
  · exact kt
  · exact kf
theorem BX13_beginOne_31 {d bc bs : Nat} {h : aH} {n : Nat} {Q : aQ} {ar0 : Nat} {x1 v3 : Int} {f1 : List aV} (h2 : h ar0 = cO 13 f1) (g4 : f1[14]? = some (vI v3)) (kt : v3 = 0 → Rn d bc bs mX13_beginOne 40 [some (vR (some ar0)), some (vI x1)] [] h n Q) (kf : v3 ≠ 0 → Rn d bc bs mX13_beginOne 38 [some (vR (some ar0)), some (vI x1)] [] h n Q) : Rn d (bc) (bs) mX13_beginOne 31 [some (vR (some ar0)), some (vI x1)] [] h n Q := by
  refine Rn_aload_n dX13_beginOne_31 rfl rfl rfl ?_
  refine Rn_getfield (ci := 13) (k := 14) dX13_beginOne_32 rfl in_13 (Nat.le_of_ble_eq_true rfl) wd_1366 rfl h2 g4 ?_
  refine Rn_ifeq (tgt := 40) dX13_beginOne_35 rfl ?_ ?_
  · exact kt
  · exact kf
theorem BX13_beginOne_38 {d bc bs : Nat} {h : aH} {n : Nat} {Q : aQ} {r0 : Option Nat} {x1 : Int} (k : Q (some (vI 5)) h n) : Rn d (bc) (bs) mX13_beginOne 38 [some (vR r0), some (vI x1)] [] h n Q := by
  refine Rn_iconst dX13_beginOne_38 rfl ?_
  exact Rn_ireturn rfl dX13_beginOne_39 k
theorem BX13_beginOne_40 {d bc bs : Nat} {h : aH} {n : Nat} {Q : aQ} {ar0 : Nat} {x1 v3 : Int} {f1 : List aV} (h2 : h ar0 = cO 13 f1) (g4 : f1[9]? = some (vI v3)) (kt : v3 = 1 → Rn d bc bs mX13_beginOne 52 [some (vR (some ar0)), some (vI x1)] [] h n Q) (kf : v3 ≠ 1 → Rn d bc bs mX13_beginOne 48 [some (vR (some ar0)), some (vI x1)] [] h n Q) : Rn d (bc) (bs) mX13_beginOne 40 [some (vR (some ar0)), some (vI x1)] [] h n Q := by
  refine Rn_aload_n dX13_beginOne_40 rfl rfl rfl ?_
  refine Rn_getfield (ci := 13) (k := 9) dX13_beginOne_41 rfl in_13 (Nat.le_of_ble_eq_true rfl) wd_1361 rfl h2 g4 ?_
  refine Rn_iconst dX13_beginOne_44 rfl ?_
  refine Rn_icmpeq (tgt := 52) dX13_beginOne_45 rfl ?_ ?_
  · exact kt
  · exact kf
theorem BX13_beginOne_48 {d bc bs : Nat} {h : aH} {n : Nat} {Q : aQ} {r0 : Option Nat} {x1 : Int} (kt : x1 < 0 → Rn d bc bs mX13_beginOne 94 [some (vR r0), some (vI x1)] [] h n Q) (kf : 0 ≤ x1 → Rn d bc bs mX13_beginOne 52 [some (vR r0), some (vI x1)] [] h n Q) : Rn d (bc) (bs) mX13_beginOne 48 [some (vR r0), some (vI x1)] [] h n Q := by
  refine Rn_iload_n dX13_beginOne_48 rfl rfl ?_
  refine Rn_iflt (tgt := 94) dX13_beginOne_49 rfl ?_ ?_
  · exact kt
  · exact kf
theorem BX13_beginOne_52 {d bc bs : Nat} {h : aH} {n : Nat} {Q : aQ} {ar0 : Nat} {x1 v3 : Int} {f1 : List aV} (h2 : h ar0 = cO 13 f1) (g4 : f1[9]? = some (vI v3)) (kt : v3 ≠ 1 → Rn d bc bs mX13_beginOne 65 [some (vR (some ar0)), some (vI x1)] [vR (some ar0)] h n Q) (kf : v3 = 1 → Rn d bc bs mX13_beginOne 61 [some (vR (some ar0)), some (vI x1)] [vR (some ar0)] h n Q) : Rn d (bc) (bs) mX13_beginOne 52 [some (vR (some ar0)), some (vI x1)] [] h n Q := by
  refine Rn_aload_n dX13_beginOne_52 rfl rfl rfl ?_
  refine Rn_aload_n dX13_beginOne_53 rfl rfl rfl ?_
  refine Rn_getfield (ci := 13) (k := 9) dX13_beginOne_54 rfl in_13 (Nat.le_of_ble_eq_true rfl) wd_1361 rfl h2 g4 ?_
  refine Rn_iconst dX13_beginOne_57 rfl ?_
  refine Rn_icmpne (tgt := 65) dX13_beginOne_58 rfl ?_ ?_
  · exact kt
  · exact kf
theorem BX13_beginOne_61 {d bc bs : Nat} {h : aH} {n : Nat} {Q : aQ} {ar0 : Nat} {x1 v3 : Int} {q0 : Option Nat} {f1 : List aV} (h2 : h ar0 = cO 13 f1) (g4 : f1[9]? = some (vI v3)) (kt : v3 ≠ 1 → Rn d bc bs mX13_beginOne 81 [some (vR (some ar0)), some (vI x1)] [vI 0, vR q0] h n Q) (kf : v3 = 1 → Rn d bc bs mX13_beginOne 74 [some (vR (some ar0)), some (vI x1)] [vI 0, vR q0] h n Q) : Rn d (bc) (bs) mX13_beginOne 61 [some (vR (some ar0)), some (vI x1)] [vR q0] h n Q := by
  refine Rn_iconst dX13_beginOne_61 rfl ?_
  refine Rn_goto (tgt := 66) dX13_beginOne_62 rfl ?_
  refine Rn_aload_n dX13_beginOne_66 rfl rfl rfl ?_
  refine Rn_getfield (ci := 13) (k := 9) dX13_beginOne_67 rfl in_13 (Nat.le_of_ble_eq_true rfl) wd_1361 rfl h2 g4 ?_
  refine Rn_iconst dX13_beginOne_70 rfl ?_
  refine Rn_icmpne (tgt := 81) dX13_beginOne_71 rfl ?_ ?_
  · exact kt
  · exact kf
theorem BX13_beginOne_65 {d bc bs : Nat} {h : aH} {n : Nat} {Q : aQ} {ar0 : Nat} {x1 v3 : Int} {q0 : Option Nat} {f1 : List aV} (h2 : h ar0 = cO 13 f1) (g4 : f1[9]? = some (vI v3)) (kt : v3 ≠ 1 → Rn d bc bs mX13_beginOne 81 [some (vR (some ar0)), some (vI x1)] [vI 1, vR q0] h n Q) (kf : v3 = 1 → Rn d bc bs mX13_beginOne 74 [some (vR (some ar0)), some (vI x1)] [vI 1, vR q0] h n Q) : Rn d (bc) (bs) mX13_beginOne 65 [some (vR (some ar0)), some (vI x1)] [vR q0] h n Q := by
  refine Rn_iconst dX13_beginOne_65 rfl ?_
  refine Rn_aload_n dX13_beginOne_66 rfl rfl rfl ?_
  refine Rn_getfield (ci := 13) (k := 9) dX13_beginOne_67 rfl in_13 (Nat.le_of_ble_eq_true rfl) wd_1361 rfl h2 g4 ?_
  refine Rn_iconst dX13_beginOne_70 rfl ?_
  refine Rn_icmpne (tgt := 81) dX13_beginOne_71 rfl ?_ ?_
  · exact kt
  · exact kf
theorem BX13_beginOne_74 {d bc bs : Nat} {h : aH} {n : Nat} {Q : aQ} {ar0 aq0 : Nat} {x1 s1 v3 : Int} {f1 f5 : List aV} (h2 : h ar0 = cO 13 f1) (g4 : f1[10]? = some (vI v3)) (h6 : h aq0 = cO 13 f5) (k : Rn d 0 0 mX13_emit 0 [some (vR (some aq0)), some (vI s1), some (vI v3)] [] h n (fun v h1 n1 => Rn (d + 1) bc bs mX13_beginOne 85 [some (vR (some ar0)), some (vI x1)] (v.toList ++ []) h1 n1 Q)) : Rn (d + 1) (bc) (bs) mX13_beginOne 74 [some (vR (some ar0)), some (vI x1)] [vI s1, vR (some aq0)] h n Q := by
  refine Rn_aload_n dX13_beginOne_74 rfl rfl rfl ?_
  refine Rn_getfield (ci := 13) (k := 10) dX13_beginOne_75 rfl in_13 (Nat.le_of_ble_eq_true rfl) wd_1362 rfl h2 g4 ?_
  refine Rn_goto (tgt := 82) dX13_beginOne_78 rfl ?_
  exact Rn_callV (ci := 13) (avs := [vI s1, vI v3]) (st := []) (bc1 := 0) (bs1 := 0) (bc2 := bc) (bs2 := bs) fx_X13_emit dX13_beginOne_82 wd_1598 wd_1600 wd_66 rfl h6 rfl (Nat.le_of_ble_eq_true rfl) (Nat.le_of_ble_eq_true rfl) (by omega) (by omega) (ls1 := [some (vR (some aq0)), some (vI s1), some (vI v3)]) rfl k
theorem BX13_beginOne_81 {d bc bs : Nat} {h : aH} {n : Nat} {Q : aQ} {r0 : Option Nat} {x1 s1 : Int} {aq0 : Nat} {f1 : List aV} (h2 : h aq0 = cO 13 f1) (k : Rn d 0 0 mX13_emit 0 [some (vR (some aq0)), some (vI s1), some (vI x1)] [] h n (fun v h1 n1 => Rn (d + 1) bc bs mX13_beginOne 85 [some (vR r0), some (vI x1)] (v.toList ++ []) h1 n1 Q)) : Rn (d + 1) (bc) (bs) mX13_beginOne 81 [some (vR r0), some (vI x1)] [vI s1, vR (some aq0)] h n Q := by
  refine Rn_iload_n dX13_beginOne_81 rfl rfl ?_
  exact Rn_callV (ci := 13) (avs := [vI s1, vI x1]) (st := []) (bc1 := 0) (bs1 := 0) (bc2 := bc) (bs2 := bs) fx_X13_emit dX13_beginOne_82 wd_1598 wd_1600 wd_66 rfl h2 rfl (Nat.le_of_ble_eq_true rfl) (Nat.le_of_ble_eq_true rfl) (by omega) (by omega) (ls1 := [some (vR (some aq0)), some (vI s1), some (vI x1)]) rfl k
theorem BX13_beginOne_85 {d bc bs : Nat} {h : aH} {n : Nat} {Q : aQ} {ar0 : Nat} {x1 : Int} {f1 : List aV} (h2 : h ar0 = cO 13 f1) (k : Rn d 0 0 mX13_nextToken 0 [some (vR (some ar0)), none] [] h n (fun v h1 n1 => Rn (d + 1) bc bs mX13_beginOne 89 [some (vR (some ar0)), some (vI x1)] (v.toList ++ []) h1 n1 Q)) : Rn (d + 1) (bc) (bs) mX13_beginOne 85 [some (vR (some ar0)), some (vI x1)] [] h n Q := by
  refine Rn_aload_n dX13_beginOne_85 rfl rfl rfl ?_
  exact Rn_callV (ci := 13) (avs := []) (st := []) (bc1 := 0) (bs1 := 0) (bc2 := bc) (bs2 := bs) fx_X13_nextToken dX13_beginOne_86 wd_1490 wd_1492 wd_47 rfl h2 rfl (Nat.le_of_ble_eq_true rfl) (Nat.le_of_ble_eq_true rfl) (by omega) (by omega) (ls1 := [some (vR (some ar0)), none]) rfl k
theorem BX13_beginOne_89 {d bc bs : Nat} {h : aH} {n : Nat} {Q : aQ} {ar0 : Nat} {x1 : Int} {f1 : List aV} (h2 : h ar0 = cO 13 f1) (k : Rn d 0 0 mX13_endOne 0 [some (vR (some ar0))] [] h n (fun v h1 n1 => Rn (d + 1) bc bs mX13_beginOne 93 [some (vR (some ar0)), some (vI x1)] (v.toList ++ []) h1 n1 Q)) : Rn (d + 1) (bc) (bs) mX13_beginOne 89 [some (vR (some ar0)), some (vI x1)] [] h n Q := by
  refine Rn_aload_n dX13_beginOne_89 rfl rfl rfl ?_
  exact Rn_callV (ci := 13) (avs := []) (st := []) (bc1 := 0) (bs1 := 0) (bc2 := bc) (bs2 := bs) fx_X13_endOne dX13_beginOne_90 wd_1606 wd_1608 wd_68 rfl h2 rfl (Nat.le_of_ble_eq_true rfl) (Nat.le_of_ble_eq_true rfl) (by omega) (by omega) (ls1 := [some (vR (some ar0))]) rfl k
theorem BX13_beginOne_93 {d bc bs : Nat} {h : aH} {n : Nat} {Q : aQ} {r0 : Option Nat} {x1 s0 : Int} (k : Q (some (vI s0)) h n) : Rn d (bc) (bs) mX13_beginOne 93 [some (vR r0), some (vI x1)] [vI s0] h n Q := by
  exact Rn_ireturn rfl dX13_beginOne_93 k
theorem BX13_beginOne_94 {d bc bs : Nat} {h : aH} {n : Nat} {Q : aQ} {ar0 : Nat} {x1 v3 : Int} {f1 : List aV} (h2 : h ar0 = cO 13 f1) (g4 : f1[9]? = some (vI v3)) (kt : v3 ≠ 40 → Rn d bc bs mX13_beginOne 110 [some (vR (some ar0)), some (vI x1)] [] h n Q) (kf : v3 = 40 → Rn d bc bs mX13_beginOne 103 [some (vR (some ar0)), some (vI x1)] [] h n Q) : Rn d (bc) (bs) mX13_beginOne 94 [some (vR (some ar0)), some (vI x1)] [] h n Q := by
  refine Rn_aload_n dX13_beginOne_94 rfl rfl rfl ?_
  refine Rn_getfield (ci := 13) (k := 9) dX13_beginOne_95 rfl in_13 (Nat.le_of_ble_eq_true rfl) wd_1361 rfl h2 g4 ?_
  refine Rn_bipush dX13_beginOne_98 rfl ?_
  refine Rn_icmpne (tgt := 110) dX13_beginOne_100 rfl ?_ ?_
  · exact kt
  · exact kf
theorem BX13_beginOne_103 {d bc bs : Nat} {h : aH} {n : Nat} {Q : aQ} {ar0 : Nat} {x1 : Int} {f1 : List aV} (h2 : h ar0 = cO 13 f1) (k : Rn d 0 0 mX13_opened 0 [some (vR (some ar0)), some (vI 40)] [] h n (fun v h1 n1 => Rn (d + 1) bc bs mX13_beginOne 109 [some (vR (some ar0)), some (vI x1)] (v.toList ++ []) h1 n1 Q)) : Rn (d + 1) (bc) (bs) mX13_beginOne 103 [some (vR (some ar0)), some (vI x1)] [] h n Q := by
  refine Rn_aload_n dX13_beginOne_103 rfl rfl rfl ?_
  refine Rn_bipush dX13_beginOne_104 rfl ?_
  exact Rn_callV (ci := 13) (avs := [vI 40]) (st := []) (bc1 := 0) (bs1 := 0) (bc2 := bc) (bs2 := bs) fx_X13_opened dX13_beginOne_106 wd_1618 wd_1620 wd_71 rfl h2 rfl (Nat.le_of_ble_eq_true rfl) (Nat.le_of_ble_eq_true rfl) (by omega) (by omega) (ls1 := [some (vR (some ar0)), some (vI 40)]) rfl k
theorem BX13_beginOne_109 {d bc bs : Nat} {h : aH} {n : Nat} {Q : aQ} {r0 : Option Nat} {x1 s0 : Int} (k : Q (some (vI s0)) h n) : Rn d (bc) (bs) mX13_beginOne 109 [some (vR r0), some (vI x1)] [vI s0] h n Q := by
  exact Rn_ireturn rfl dX13_beginOne_109 k
theorem BX13_beginOne_110 {d bc bs : Nat} {h : aH} {n : Nat} {Q : aQ} {ar0 : Nat} {x1 v3 : Int} {f1 : List aV} (h2 : h ar0 = cO 13 f1) (g4 : f1[9]? = some (vI v3)) (kt : v3 ≠ 45 → Rn d bc bs mX13_beginOne 125 [some (vR (some ar0)), some (vI x1)] [] h n Q) (kf : v3 = 45 → Rn d bc bs mX13_beginOne 119 [some (vR (some ar0)), some (vI x1)] [] h n Q) : Rn d (bc) (bs) mX13_beginOne 110 [some (vR (some ar0)), some (vI x1)] [] h n Q := by
  refine Rn_aload_n dX13_beginOne_110 rfl rfl rfl ?_
  refine Rn_getfield (ci := 13) (k := 9) dX13_beginOne_111 rfl in_13 (Nat.le_of_ble_eq_true rfl) wd_1361 rfl h2 g4 ?_
  refine Rn_bipush dX13_beginOne_114 rfl ?_
  refine Rn_icmpne (tgt := 125) dX13_beginOne_116 rfl ?_ ?_
  · exact kt
  · exact kf
theorem BX13_beginOne_119 {d bc bs : Nat} {h : aH} {n : Nat} {Q : aQ} {ar0 : Nat} {x1 : Int} {f1 : List aV} (h2 : h ar0 = cO 13 f1) (k : Rn d 0 0 mX13_opened 0 [some (vR (some ar0)), some (vI 5)] [] h n (fun v h1 n1 => Rn (d + 1) bc bs mX13_beginOne 124 [some (vR (some ar0)), some (vI x1)] (v.toList ++ []) h1 n1 Q)) : Rn (d + 1) (bc) (bs) mX13_beginOne 119 [some (vR (some ar0)), some (vI x1)] [] h n Q := by
  refine Rn_aload_n dX13_beginOne_119 rfl rfl rfl ?_
  refine Rn_iconst dX13_beginOne_120 rfl ?_
  exact Rn_callV (ci := 13) (avs := [vI 5]) (st := []) (bc1 := 0) (bs1 := 0) (bc2 := bc) (bs2 := bs) fx_X13_opened dX13_beginOne_121 wd_1618 wd_1620 wd_71 rfl h2 rfl (Nat.le_of_ble_eq_true rfl) (Nat.le_of_ble_eq_true rfl) (by omega) (by omega) (ls1 := [some (vR (some ar0)), some (vI 5)]) rfl k
theorem BX13_beginOne_124 {d bc bs : Nat} {h : aH} {n : Nat} {Q : aQ} {r0 : Option Nat} {x1 s0 : Int} (k : Q (some (vI s0)) h n) : Rn d (bc) (bs) mX13_beginOne 124 [some (vR r0), some (vI x1)] [vI s0] h n Q := by
  exact Rn_ireturn rfl dX13_beginOne_124 k
theorem BX13_beginOne_125 {d bc bs : Nat} {h : aH} {n : Nat} {Q : aQ} {r0 : Option Nat} {x1 : Int} (k : Rn d 0 0 mX13_w5 0 [some (vI 108), some (vI 97), some (vI 116), some (vI 101), some (vI 114)] [] h n (fun v h1 n1 => Rn (d + 1) bc bs mX13_beginOne 139 [some (vR r0), some (vI x1)] (v.toList ++ [vR r0]) h1 n1 Q)) : Rn (d + 1) (bc) (bs) mX13_beginOne 125 [some (vR r0), some (vI x1)] [] h n Q := by
  refine Rn_aload_n dX13_beginOne_125 rfl rfl rfl ?_
  refine Rn_bipush dX13_beginOne_126 rfl ?_
  refine Rn_bipush dX13_beginOne_128 rfl ?_
  refine Rn_bipush dX13_beginOne_130 rfl ?_
  refine Rn_bipush dX13_beginOne_132 rfl ?_
  refine Rn_bipush dX13_beginOne_134 rfl ?_
  exact Rn_callS (avs := [vI 108, vI 97, vI 116, vI 101, vI 114]) (st := [vR r0]) (bc1 := 0) (bs1 := 0) (bc2 := bc) (bs2 := bs) fx_X13_w5 dX13_beginOne_136 (Or.inl wd_1517) wd_1518 rfl (Nat.le_of_ble_eq_true rfl) (Nat.le_of_ble_eq_true rfl) (by omega) (by omega) (ls1 := [some (vI 108), some (vI 97), some (vI 116), some (vI 101), some (vI 114)]) rfl k
theorem BX13_beginOne_139 {d bc bs : Nat} {h : aH} {n : Nat} {Q : aQ} {r0 : Option Nat} {x1 s1 : Int} {aq0 : Nat} {f1 : List aV} (h2 : h aq0 = cO 13 f1) (k : Rn d 0 0 mX13_isWord 0 [some (vR (some aq0)), some (vL s1), none] [] h n (fun v h1 n1 => Rn (d + 1) bc bs mX13_beginOne 142 [some (vR r0), some (vI x1)] (v.toList ++ []) h1 n1 Q)) : Rn (d + 1) (bc) (bs) mX13_beginOne 139 [some (vR r0), some (vI x1)] [vL s1, vR (some aq0)] h n Q := by
  exact Rn_callV (ci := 13) (avs := [vL s1]) (st := []) (bc1 := 0) (bs1 := 0) (bc2 := bc) (bs2 := bs) fx_X13_isWord dX13_beginOne_139 wd_1529 wd_1531 wd_51 rfl h2 rfl (Nat.le_of_ble_eq_true rfl) (Nat.le_of_ble_eq_true rfl) (by omega) (by omega) (ls1 := [some (vR (some aq0)), some (vL s1), none]) rfl k
theorem BX13_beginOne_142 {d bc bs : Nat} {h : aH} {n : Nat} {Q : aQ} {r0 : Option Nat} {x1 s0 : Int} (kt : s0 = 0 → Rn d bc bs mX13_beginOne 152 [some (vR r0), some (vI x1)] [] h n Q) (kf : s0 ≠ 0 → Rn d bc bs mX13_beginOne 145 [some (vR r0), some (vI x1)] [] h n Q) : Rn d (bc) (bs) mX13_beginOne 142 [some (vR r0), some (vI x1)] [vI s0] h n Q := by
  refine Rn_ifeq (tgt := 152) dX13_beginOne_142 rfl ?_ ?_
  · exact kt
  · exact kf
theorem BX13_beginOne_145 {d bc bs : Nat} {h : aH} {n : Nat} {Q : aQ} {ar0 : Nat} {x1 : Int} {f1 : List aV} (h2 : h ar0 = cO 13 f1) (k : Rn d 0 0 mX13_opened 0 [some (vR (some ar0)), some (vI 41)] [] h n (fun v h1 n1 => Rn (d + 1) bc bs mX13_beginOne 151 [some (vR (some ar0)), some (vI x1)] (v.toList ++ []) h1 n1 Q)) : Rn (d + 1) (bc) (bs) mX13_beginOne 145 [some (vR (some ar0)), some (vI x1)] [] h n Q := by
  refine Rn_aload_n dX13_beginOne_145 rfl rfl rfl ?_
  refine Rn_bipush dX13_beginOne_146 rfl ?_
  exact Rn_callV (ci := 13) (avs := [vI 41]) (st := []) (bc1 := 0) (bs1 := 0) (bc2 := bc) (bs2 := bs) fx_X13_opened dX13_beginOne_148 wd_1618 wd_1620 wd_71 rfl h2 rfl (Nat.le_of_ble_eq_true rfl) (Nat.le_of_ble_eq_true rfl) (by omega) (by omega) (ls1 := [some (vR (some ar0)), some (vI 41)]) rfl k
theorem BX13_beginOne_151 {d bc bs : Nat} {h : aH} {n : Nat} {Q : aQ} {r0 : Option Nat} {x1 s0 : Int} (k : Q (some (vI s0)) h n) : Rn d (bc) (bs) mX13_beginOne 151 [some (vR r0), some (vI x1)] [vI s0] h n Q := by
  exact Rn_ireturn rfl dX13_beginOne_151 k
theorem BX13_beginOne_152 {d bc bs : Nat} {h : aH} {n : Nat} {Q : aQ} {r0 : Option Nat} {x1 : Int} (k : Rn d 0 0 mX13_w6 0 [some (vI 112), some (vI 108), some (vI 97), some (vI 99), some (vI 101), some (vI 115)] [] h n (fun v h1 n1 => Rn (d + 1) bc bs mX13_beginOne 168 [some (vR r0), some (vI x1)] (v.toList ++ [vR r0]) h1 n1 Q)) : Rn (d + 1) (bc) (bs) mX13_beginOne 152 [some (vR r0), some (vI x1)] [] h n Q := by
  refine Rn_aload_n dX13_beginOne_152 rfl rfl rfl ?_
  refine Rn_bipush dX13_beginOne_153 rfl ?_
  refine Rn_bipush dX13_beginOne_155 rfl ?_
  refine Rn_bipush dX13_beginOne_157 rfl ?_
  refine Rn_bipush dX13_beginOne_159 rfl ?_
  refine Rn_bipush dX13_beginOne_161 rfl ?_
  refine Rn_bipush dX13_beginOne_163 rfl ?_
  exact Rn_callS (avs := [vI 112, vI 108, vI 97, vI 99, vI 101, vI 115]) (st := [vR r0]) (bc1 := 0) (bs1 := 0) (bc2 := bc) (bs2 := bs) fx_X13_w6 dX13_beginOne_165 (Or.inl wd_1533) wd_1534 rfl (Nat.le_of_ble_eq_true rfl) (Nat.le_of_ble_eq_true rfl) (by omega) (by omega) (ls1 := [some (vI 112), some (vI 108), some (vI 97), some (vI 99), some (vI 101), some (vI 115)]) rfl k
theorem BX13_beginOne_168 {d bc bs : Nat} {h : aH} {n : Nat} {Q : aQ} {r0 : Option Nat} {x1 s1 : Int} {aq0 : Nat} {f1 : List aV} (h2 : h aq0 = cO 13 f1) (k : Rn d 0 0 mX13_isWord 0 [some (vR (some aq0)), some (vL s1), none] [] h n (fun v h1 n1 => Rn (d + 1) bc bs mX13_beginOne 171 [some (vR r0), some (vI x1)] (v.toList ++ []) h1 n1 Q)) : Rn (d + 1) (bc) (bs) mX13_beginOne 168 [some (vR r0), some (vI x1)] [vL s1, vR (some aq0)] h n Q := by
  exact Rn_callV (ci := 13) (avs := [vL s1]) (st := []) (bc1 := 0) (bs1 := 0) (bc2 := bc) (bs2 := bs) fx_X13_isWord dX13_beginOne_168 wd_1529 wd_1531 wd_51 rfl h2 rfl (Nat.le_of_ble_eq_true rfl) (Nat.le_of_ble_eq_true rfl) (by omega) (by omega) (ls1 := [some (vR (some aq0)), some (vL s1), none]) rfl k
theorem BX13_beginOne_171 {d bc bs : Nat} {h : aH} {n : Nat} {Q : aQ} {r0 : Option Nat} {x1 s0 : Int} (kt : s0 = 0 → Rn d bc bs mX13_beginOne 180 [some (vR r0), some (vI x1)] [] h n Q) (kf : s0 ≠ 0 → Rn d bc bs mX13_beginOne 174 [some (vR r0), some (vI x1)] [] h n Q) : Rn d (bc) (bs) mX13_beginOne 171 [some (vR r0), some (vI x1)] [vI s0] h n Q := by
  refine Rn_ifeq (tgt := 180) dX13_beginOne_171 rfl ?_ ?_
  · exact kt
  · exact kf
theorem BX13_beginOne_174 {d bc bs : Nat} {h : aH} {n : Nat} {Q : aQ} {ar0 : Nat} {x1 : Int} {f1 : List aV} (h2 : h ar0 = cO 13 f1) (k : Rn d 0 0 mX13_opened 0 [some (vR (some ar0)), some (vI 2)] [] h n (fun v h1 n1 => Rn (d + 1) bc bs mX13_beginOne 179 [some (vR (some ar0)), some (vI x1)] (v.toList ++ []) h1 n1 Q)) : Rn (d + 1) (bc) (bs) mX13_beginOne 174 [some (vR (some ar0)), some (vI x1)] [] h n Q := by
  refine Rn_aload_n dX13_beginOne_174 rfl rfl rfl ?_
  refine Rn_iconst dX13_beginOne_175 rfl ?_
  exact Rn_callV (ci := 13) (avs := [vI 2]) (st := []) (bc1 := 0) (bs1 := 0) (bc2 := bc) (bs2 := bs) fx_X13_opened dX13_beginOne_176 wd_1618 wd_1620 wd_71 rfl h2 rfl (Nat.le_of_ble_eq_true rfl) (Nat.le_of_ble_eq_true rfl) (by omega) (by omega) (ls1 := [some (vR (some ar0)), some (vI 2)]) rfl k
theorem BX13_beginOne_179 {d bc bs : Nat} {h : aH} {n : Nat} {Q : aQ} {r0 : Option Nat} {x1 s0 : Int} (k : Q (some (vI s0)) h n) : Rn d (bc) (bs) mX13_beginOne 179 [some (vR r0), some (vI x1)] [vI s0] h n Q := by
  exact Rn_ireturn rfl dX13_beginOne_179 k
theorem BX13_beginOne_180 {d bc bs : Nat} {h : aH} {n : Nat} {Q : aQ} {r0 : Option Nat} {x1 : Int} (k : Rn d 0 0 mX13_w2 0 [some (vI 105), some (vI 102)] [] h n (fun v h1 n1 => Rn (d + 1) bc bs mX13_beginOne 188 [some (vR r0), some (vI x1)] (v.toList ++ [vR r0]) h1 n1 Q)) : Rn (d + 1) (bc) (bs) mX13_beginOne 180 [some (vR r0), some (vI x1)] [] h n Q := by
  refine Rn_aload_n dX13_beginOne_180 rfl rfl rfl ?_
  refine Rn_bipush dX13_beginOne_181 rfl ?_
  refine Rn_bipush dX13_beginOne_183 rfl ?_
  exact Rn_callS (avs := [vI 105, vI 102]) (st := [vR r0]) (bc1 := 0) (bs1 := 0) (bc2 := bc) (bs2 := bs) fx_X13_w2 dX13_beginOne_185 (Or.inl wd_1526) wd_1527 rfl (Nat.le_of_ble_eq_true rfl) (Nat.le_of_ble_eq_true rfl) (by omega) (by omega) (ls1 := [some (vI 105), some (vI 102)]) rfl k
theorem BX13_beginOne_188 {d bc bs : Nat} {h : aH} {n : Nat} {Q : aQ} {r0 : Option Nat} {x1 s1 : Int} {aq0 : Nat} {f1 : List aV} (h2 : h aq0 = cO 13 f1) (k : Rn d 0 0 mX13_isWord 0 [some (vR (some aq0)), some (vL s1), none] [] h n (fun v h1 n1 => Rn (d + 1) bc bs mX13_beginOne 191 [some (vR r0), some (vI x1)] (v.toList ++ []) h1 n1 Q)) : Rn (d + 1) (bc) (bs) mX13_beginOne 188 [some (vR r0), some (vI x1)] [vL s1, vR (some aq0)] h n Q := by
  exact Rn_callV (ci := 13) (avs := [vL s1]) (st := []) (bc1 := 0) (bs1 := 0) (bc2 := bc) (bs2 := bs) fx_X13_isWord dX13_beginOne_188 wd_1529 wd_1531 wd_51 rfl h2 rfl (Nat.le_of_ble_eq_true rfl) (Nat.le_of_ble_eq_true rfl) (by omega) (by omega) (ls1 := [some (vR (some aq0)), some (vL s1), none]) rfl k
theorem BX13_beginOne_191 {d bc bs : Nat} {h : aH} {n : Nat} {Q : aQ} {r0 : Option Nat} {x1 s0 : Int} (kt : s0 = 0 → Rn d bc bs mX13_beginOne 201 [some (vR r0), some (vI x1)] [] h n Q) (kf : s0 ≠ 0 → Rn d bc bs mX13_beginOne 194 [some (vR r0), some (vI x1)] [] h n Q) : Rn d (bc) (bs) mX13_beginOne 191 [some (vR r0), some (vI x1)] [vI s0] h n Q := by
  refine Rn_ifeq (tgt := 201) dX13_beginOne_191 rfl ?_ ?_
  · exact kt
  · exact kf
theorem BX13_beginOne_194 {d bc bs : Nat} {h : aH} {n : Nat} {Q : aQ} {ar0 : Nat} {x1 : Int} {f1 : List aV} (h2 : h ar0 = cO 13 f1) (k : Rn d 0 0 mX13_opened 0 [some (vR (some ar0)), some (vI 42)] [] h n (fun v h1 n1 => Rn (d + 1) bc bs mX13_beginOne 200 [some (vR (some ar0)), some (vI x1)] (v.toList ++ []) h1 n1 Q)) : Rn (d + 1) (bc) (bs) mX13_beginOne 194 [some (vR (some ar0)), some (vI x1)] [] h n Q := by
  refine Rn_aload_n dX13_beginOne_194 rfl rfl rfl ?_
  refine Rn_bipush dX13_beginOne_195 rfl ?_
  exact Rn_callV (ci := 13) (avs := [vI 42]) (st := []) (bc1 := 0) (bs1 := 0) (bc2 := bc) (bs2 := bs) fx_X13_opened dX13_beginOne_197 wd_1618 wd_1620 wd_71 rfl h2 rfl (Nat.le_of_ble_eq_true rfl) (Nat.le_of_ble_eq_true rfl) (by omega) (by omega) (ls1 := [some (vR (some ar0)), some (vI 42)]) rfl k
theorem BX13_beginOne_200 {d bc bs : Nat} {h : aH} {n : Nat} {Q : aQ} {r0 : Option Nat} {x1 s0 : Int} (k : Q (some (vI s0)) h n) : Rn d (bc) (bs) mX13_beginOne 200 [some (vR r0), some (vI x1)] [vI s0] h n Q := by
  exact Rn_ireturn rfl dX13_beginOne_200 k
theorem BX13_beginOne_201 {d bc bs : Nat} {h : aH} {n : Nat} {Q : aQ} {r0 : Option Nat} {x1 : Int} (k : Rn d 0 0 mX13_w3 0 [some (vI 110), some (vI 111), some (vI 116)] [] h n (fun v h1 n1 => Rn (d + 1) bc bs mX13_beginOne 211 [some (vR r0), some (vI x1)] (v.toList ++ [vR r0]) h1 n1 Q)) : Rn (d + 1) (bc) (bs) mX13_beginOne 201 [some (vR r0), some (vI x1)] [] h n Q := by
  refine Rn_aload_n dX13_beginOne_201 rfl rfl rfl ?_
  refine Rn_bipush dX13_beginOne_202 rfl ?_
  refine Rn_bipush dX13_beginOne_204 rfl ?_
  refine Rn_bipush dX13_beginOne_206 rfl ?_
  exact Rn_callS (avs := [vI 110, vI 111, vI 116]) (st := [vR r0]) (bc1 := 0) (bs1 := 0) (bc2 := bc) (bs2 := bs) fx_X13_w3 dX13_beginOne_208 (Or.inl wd_1523) wd_1524 rfl (Nat.le_of_ble_eq_true rfl) (Nat.le_of_ble_eq_true rfl) (by omega) (by omega) (ls1 := [some (vI 110), some (vI 111), some (vI 116)]) rfl k
theorem BX13_beginOne_211 {d bc bs : Nat} {h : aH} {n : Nat} {Q : aQ} {r0 : Option Nat} {x1 s1 : Int} {aq0 : Nat} {f1 : List aV} (h2 : h aq0 = cO 13 f1) (k : Rn d 0 0 mX13_isWord 0 [some (vR (some aq0)), some (vL s1), none] [] h n (fun v h1 n1 => Rn (d + 1) bc bs mX13_beginOne 214 [some (vR r0), some (vI x1)] (v.toList ++ []) h1 n1 Q)) : Rn (d + 1) (bc) (bs) mX13_beginOne 211 [some (vR r0), some (vI x1)] [vL s1, vR (some aq0)] h n Q := by
  exact Rn_callV (ci := 13) (avs := [vL s1]) (st := []) (bc1 := 0) (bs1 := 0) (bc2 := bc) (bs2 := bs) fx_X13_isWord dX13_beginOne_211 wd_1529 wd_1531 wd_51 rfl h2 rfl (Nat.le_of_ble_eq_true rfl) (Nat.le_of_ble_eq_true rfl) (by omega) (by omega) (ls1 := [some (vR (some aq0)), some (vL s1), none]) rfl k
theorem BX13_beginOne_214 {d bc bs : Nat} {h : aH} {n : Nat} {Q : aQ} {r0 : Option Nat} {x1 s0 : Int} (kt : s0 = 0 → Rn d bc bs mX13_beginOne 233 [some (vR r0), some (vI x1)] [] h n Q) (kf : s0 ≠ 0 → Rn d bc bs mX13_beginOne 217 [some (vR r0), some (vI x1)] [] h n Q) : Rn d (bc) (bs) mX13_beginOne 214 [some (vR r0), some (vI x1)] [vI s0] h n Q := by
  refine Rn_ifeq (tgt := 233) dX13_beginOne_214 rfl ?_ ?_
  · exact kt
  · exact kf
theorem BX13_beginOne_217 {d bc bs : Nat} {h : aH} {n : Nat} {Q : aQ} {ar0 : Nat} {x1 : Int} {f1 : List aV} (h2 : h ar0 = cO 13 f1) (k : Rn d 0 0 mX13_isAskAhead 0 [some (vR (some ar0))] [] h n (fun v h1 n1 => Rn (d + 1) bc bs mX13_beginOne 221 [some (vR (some ar0)), some (vI x1)] (v.toList ++ []) h1 n1 Q)) : Rn (d + 1) (bc) (bs) mX13_beginOne 217 [some (vR (some ar0)), some (vI x1)] [] h n Q := by
  refine Rn_aload_n dX13_beginOne_217 rfl rfl rfl ?_
  exact Rn_callV (ci := 13) (avs := []) (st := []) (bc1 := 0) (bs1 := 0) (bc2 := bc) (bs2 := bs) fx_X13_isAskAhead dX13_beginOne_218 wd_1622 wd_1624 wd_72 rfl h2 rfl (Nat.le_of_ble_eq_true rfl) (Nat.le_of_ble_eq_true rfl) (by omega) (by omega) (ls1 := [some (vR (some ar0))]) rfl k
theorem BX13_beginOne_221 {d bc bs : Nat} {h : aH} {n : Nat} {Q : aQ} {r0 : Option Nat} {x1 s0 : Int} (kt : s0 = 0 → Rn d bc bs mX13_beginOne 233 [some (vR r0), some (vI x1)] [] h n Q) (kf : s0 ≠ 0 → Rn d bc bs mX13_beginOne 224 [some (vR r0), some (vI x1)] [] h n Q) : Rn d (bc) (bs) mX13_beginOne 221 [some (vR r0), some (vI x1)] [vI s0] h n Q := by
  refine Rn_ifeq (tgt := 233) dX13_beginOne_221 rfl ?_ ?_
  · exact kt
  · exact kf
theorem BX13_beginOne_224 {d bc bs : Nat} {h : aH} {n : Nat} {Q : aQ} {ar0 : Nat} {x1 : Int} {f1 : List aV} (h2 : h ar0 = cO 13 f1) (k : Rn d 0 0 mX13_opened 0 [some (vR (some ar0)), some (vI 20)] [] h n (fun v h1 n1 => Rn (d + 1) bc bs mX13_beginOne 230 [some (vR (some ar0)), some (vI x1)] (v.toList ++ []) h1 n1 Q)) : Rn (d + 1) (bc) (bs) mX13_beginOne 224 [some (vR (some ar0)), some (vI x1)] [] h n Q := by
  refine Rn_aload_n dX13_beginOne_224 rfl rfl rfl ?_
  refine Rn_bipush dX13_beginOne_225 rfl ?_
  exact Rn_callV (ci := 13) (avs := [vI 20]) (st := []) (bc1 := 0) (bs1 := 0) (bc2 := bc) (bs2 := bs) fx_X13_opened dX13_beginOne_227 wd_1618 wd_1620 wd_71 rfl h2 rfl (Nat.le_of_ble_eq_true rfl) (Nat.le_of_ble_eq_true rfl) (by omega) (by omega) (ls1 := [some (vR (some ar0)), some (vI 20)]) rfl k
theorem BX13_beginOne_230 {d bc bs : Nat} {h : aH} {n : Nat} {Q : aQ} {r0 : Option Nat} {x1 s0 : Int} (k : Q (some (vI s0)) h n) : Rn d (bc) (bs) mX13_beginOne 230 [some (vR r0), some (vI x1)] [vI s0] h n Q := by
  refine Rn_goto (tgt := 234) dX13_beginOne_230 rfl ?_
  exact Rn_ireturn rfl dX13_beginOne_234 k
theorem BX13_beginOne_233 {d bc bs : Nat} {h : aH} {n : Nat} {Q : aQ} {r0 : Option Nat} {x1 : Int} (k : Q (some (vI 1)) h n) : Rn d (bc) (bs) mX13_beginOne 233 [some (vR r0), some (vI x1)] [] h n Q := by
  refine Rn_iconst dX13_beginOne_233 rfl ?_
  exact Rn_ireturn rfl dX13_beginOne_234 k
theorem dX13_endOne_0 : decode cX13_endOne 0 = .ok (.aload_n 0, 1) := by decide +kernel
theorem dX13_endOne_1 : decode cX13_endOne 1 = .ok (.bipush 7, 2) := by decide +kernel
theorem dX13_endOne_3 : decode cX13_endOne 3 = .ok (.invokevirtual 195, 3) := by decide +kernel
theorem dX13_endOne_6 : decode cX13_endOne 6 = .ok (.aload_n 0, 1) := by decide +kernel
theorem dX13_endOne_7 : decode cX13_endOne 7 = .ok (.iconst 1, 1) := by decide +kernel
theorem dX13_endOne_8 : decode cX13_endOne 8 = .ok (.putfield 198, 3) := by decide +kernel
theorem dX13_endOne_11 : decode cX13_endOne 11 = .ok (.aload_n 0, 1) := by decide +kernel
theorem dX13_endOne_12 : decode cX13_endOne 12 = .ok (.getfield 148, 3) := by decide +kernel
theorem dX13_endOne_15 : decode cX13_endOne 15 = .ok (.ifCond .eq 19, 3) := by decide +kernel
theorem dX13_endOne_18 : decode cX13_endOne 18 = .ok (.aload_n 0, 1) := by decide +kernel
theorem dX13_endOne_19 : decode cX13_endOne 19 = .ok (.getfield 29, 3) := by decide +kernel
theorem dX13_endOne_22 : decode cX13_endOne 22 = .ok (.aload_n 0, 1) := by decide +kernel
theorem dX13_endOne_23 : decode cX13_endOne 23 = .ok (.getfield 148, 3) := by decide +kernel
theorem dX13_endOne_26 : decode cX13_endOne 26 = .ok (.iconst 1, 1) := by decide +kernel
theorem dX13_endOne_27 : decode cX13_endOne 27 = .ok (.isub, 1) := by decide +kernel
theorem dX13_endOne_28 : decode cX13_endOne 28 = .ok (.iaload, 1) := by decide +kernel
theorem dX13_endOne_29 : decode cX13_endOne 29 = .ok (.bipush 41, 2) := by decide +kernel
theorem dX13_endOne_31 : decode cX13_endOne 31 = .ok (.if_icmp .eq 5, 3) := by decide +kernel
theorem dX13_endOne_34 : decode cX13_endOne 34 = .ok (.iconst 0, 1) := by decide +kernel
theorem dX13_endOne_35 : decode cX13_endOne 35 = .ok (.ireturn, 1) := by decide +kernel
theorem dX13_endOne_36 : decode cX13_endOne 36 = .ok (.aload_n 0, 1) := by decide +kernel
theorem dX13_endOne_37 : decode cX13_endOne 37 = .ok (.bipush 116, 2) := by decide +kernel
theorem dX13_endOne_39 : decode cX13_endOne 39 = .ok (.bipush 104, 2) := by decide +kernel
theorem dX13_endOne_41 : decode cX13_endOne 41 = .ok (.bipush 97, 2) := by decide +kernel
theorem dX13_endOne_43 : decode cX13_endOne 43 = .ok (.bipush 110, 2) := by decide +kernel
theorem dX13_endOne_45 : decode cX13_endOne 45 = .ok (.invokestatic 134, 3) := by decide +kernel
theorem dX13_endOne_48 : decode cX13_endOne 48 = .ok (.invokevirtual 183, 3) := by decide +kernel
theorem dX13_endOne_51 : decode cX13_endOne 51 = .ok (.ifCond .ne 5, 3) := by decide +kernel
theorem dX13_endOne_54 : decode cX13_endOne 54 = .ok (.iconst 1, 1) := by decide +kernel
theorem dX13_endOne_55 : decode cX13_endOne 55 = .ok (.ireturn, 1) := by decide +kernel
theorem dX13_endOne_56 : decode cX13_endOne 56 = .ok (.aload_n 0, 1) := by decide +kernel
theorem dX13_endOne_57 : decode cX13_endOne 57 = .ok (.invokevirtual 168, 3) := by decide +kernel
theorem dX13_endOne_60 : decode cX13_endOne 60 = .ok (.aload_n 0, 1) := by decide +kernel
theorem dX13_endOne_61 : decode cX13_endOne 61 = .ok (.getfield 29, 3) := by decide +kernel
theorem dX13_endOne_64 : decode cX13_endOne 64 = .ok (.aload_n 0, 1) := by decide +kernel
theorem dX13_endOne_65 : decode cX13_endOne 65 = .ok (.getfield 148, 3) := by decide +kernel
theorem dX13_endOne_68 : decode cX13_endOne 68 = .ok (.iconst 1, 1) := by decide +kernel
theorem dX13_endOne_69 : decode cX13_endOne 69 = .ok (.isub, 1) := by decide +kernel
theorem dX13_endOne_70 : decode cX13_endOne 70 = .ok (.iconst 4, 1) := by decide +kernel
theorem dX13_endOne_71 : decode cX13_endOne 71 = .ok (.iastore, 1) := by decide +kernel
theorem dX13_endOne_72 : decode cX13_endOne 72 = .ok (.aload_n 0, 1) := by decide +kernel
theorem dX13_endOne_73 : decode cX13_endOne 73 = .ok (.iconst 0, 1) := by decide +kernel
theorem dX13_endOne_74 : decode cX13_endOne 74 = .ok (.putfield 198, 3) := by decide +kernel
theorem dX13_endOne_77 : decode cX13_endOne 77 = .ok (.iconst 0, 1) := by decide +kernel
theorem dX13_endOne_78 : decode cX13_endOne 78 = .ok (.ireturn, 1) := by decide +kernel
theorem BX13_endOne_0 {d bc bs : Nat} {h : aH} {n : Nat} {Q : aQ} {ar0 : Nat} {f1 : List aV} (h2 : h ar0 = cO 13 f1) (k : Rn d 0 0 mX13_settle 0 [some (vR (some ar0)), some (vI 7)] [] h n (fun v h1 n1 => Rn (d + 1) bc bs mX13_endOne 6 [some (vR (some ar0))] (v.toList ++ []) h1 n1 Q)) : Rn (d + 1) (bc) (bs) mX13_endOne 0 [some (vR (some ar0))] [] h n Q := by
  refine Rn_aload_n dX13_endOne_0 rfl rfl rfl ?_
  refine Rn_bipush dX13_endOne_1 rfl ?_
  exact Rn_callV (ci := 13) (avs := [vI 7]) (st := []) (bc1 := 0) (bs1 := 0) (bc2 := bc) (bs2 := bs) fx_X13_settle dX13_endOne_3 wd_1594 wd_1596 wd_65 rfl h2 rfl (Nat.le_of_ble_eq_true rfl) (Nat.le_of_ble_eq_true rfl) (by omega) (by omega) (ls1 := [some (vR (some ar0)), some (vI 7)]) rfl k
theorem BX13_endOne_6 {d bc bs : Nat} {h : aH} {n : Nat} {Q : aQ} {ar0 : Nat} {f1 : List aV} (h2 : h ar0 = cO 13 f1) (m3 : 18 < f1.length) (k : Rn d bc bs mX13_endOne 11 [some (vR (some ar0))] [] (up h ar0 (cO 13 (f1.set 18 (vI 1)))) n Q) : Rn d (bc) (bs) mX13_endOne 6 [some (vR (some ar0))] [] h n Q := by
  refine Rn_aload_n dX13_endOne_6 rfl rfl rfl ?_
  refine Rn_iconst dX13_endOne_7 rfl ?_
  refine Rn_putfield (ci := 13) (k := 18) dX13_endOne_8 rfl in_13 tyX13_ok nmX13 (Nat.le_of_ble_eq_true rfl) wd_1370 rfl (Or.inl rfl) (show (1 : Int) = 0 ∨ (1 : Int) = 1 by decide) m3 h2 ?_
  exact k
theorem BX13_endOne_11 {d bc bs : Nat} {h : aH} {n : Nat} {Q : aQ} {ar0 : Nat} {f1 : List aV} {v3 : Int} (h2 : h ar0 = cO 13 f1) (g4 : f1[16]? = some (vI v3)) (kt : v3 = 0 → Rn d bc bs mX13_endOne 34 [some (vR (some ar0))] [] h n Q) (kf : v3 ≠ 0 → Rn d bc bs mX13_endOne 18 [some (vR (some ar0))] [] h n Q) : Rn d (bc) (bs) mX13_endOne 11 [some (vR (some ar0))] [] h n Q := by
  refine Rn_aload_n dX13_endOne_11 rfl rfl rfl ?_
  refine Rn_getfield (ci := 13) (k := 16) dX13_endOne_12 rfl in_13 (Nat.le_of_ble_eq_true rfl) wd_1368 rfl h2 g4 ?_
  refine Rn_ifeq (tgt := 34) dX13_endOne_15 rfl ?_ ?_
  · exact kt
  · exact kf
theorem BX13_endOne_18 {d bc bs : Nat} {h : aH} {n : Nat} {Q : aQ} {ar0 at3 : Nat} {f1 : List aV} {v5 v10 : Int} {w8 : List Int} (h2 : h ar0 = cO 13 f1) (g4 : f1[15]? = some (vR (some at3))) (g6 : f1[16]? = some (vI v5)) (b7 : -2147483648 ≤ v5 - 1 ∧ v5 - 1 < 2147483648) (h9 : h at3 = cI w8) (i11 : 0 ≤ v5 - 1) (g12 : w8[(v5 - 1 : Int).toNat]? = some v10) (kt : v10 = 41 → Rn d bc bs mX13_endOne 36 [some (vR (some ar0))] [] h n Q) (kf : v10 ≠ 41 → Rn d bc bs mX13_endOne 34 [some (vR (some ar0))] [] h n Q) : Rn d (bc) (bs) mX13_endOne 18 [some (vR (some ar0))] [] h n Q := by
  refine Rn_aload_n dX13_endOne_18 rfl rfl rfl ?_
  refine Rn_getfield (ci := 13) (k := 15) dX13_endOne_19 rfl in_13 (Nat.le_of_ble_eq_true rfl) wd_1367 rfl h2 g4 ?_
  refine Rn_aload_n dX13_endOne_22 rfl rfl rfl ?_
  refine Rn_getfield (ci := 13) (k := 16) dX13_endOne_23 rfl in_13 (Nat.le_of_ble_eq_true rfl) wd_1368 rfl h2 g6 ?_
  refine Rn_iconst dX13_endOne_26 rfl ?_
  refine Rn_isub dX13_endOne_27 ?_
  rw [w32_id b7.1 b7.2]
  refine Rn_iaload dX13_endOne_28 h9 i11 g12 ?_
  refine Rn_bipush dX13_endOne_29 rfl ?_
  refine Rn_icmpeq (tgt := 36) dX13_endOne_31 rfl ?_ ?_
  · exact kt
  · exact kf
theorem BX13_endOne_34 {d bc bs : Nat} {h : aH} {n : Nat} {Q : aQ} {r0 : Option Nat} (k : Q (some (vI 0)) h n) : Rn d (bc) (bs) mX13_endOne 34 [some (vR r0)] [] h n Q := by
  refine Rn_iconst dX13_endOne_34 rfl ?_
  exact Rn_ireturn rfl dX13_endOne_35 k
theorem BX13_endOne_36 {d bc bs : Nat} {h : aH} {n : Nat} {Q : aQ} {r0 : Option Nat} (k : Rn d 0 0 mX13_w4 0 [some (vI 116), some (vI 104), some (vI 97), some (vI 110)] [] h n (fun v h1 n1 => Rn (d + 1) bc bs mX13_endOne 48 [some (vR r0)] (v.toList ++ [vR r0]) h1 n1 Q)) : Rn (d + 1) (bc) (bs) mX13_endOne 36 [some (vR r0)] [] h n Q := by
  refine Rn_aload_n dX13_endOne_36 rfl rfl rfl ?_
  refine Rn_bipush dX13_endOne_37 rfl ?_
  refine Rn_bipush dX13_endOne_39 rfl ?_
  refine Rn_bipush dX13_endOne_41 rfl ?_
  refine Rn_bipush dX13_endOne_43 rfl ?_
  exact Rn_callS (avs := [vI 116, vI 104, vI 97, vI 110]) (st := [vR r0]) (bc1 := 0) (bs1 := 0) (bc2 := bc) (bs2 := bs) fx_X13_w4 dX13_endOne_45 (Or.inl wd_1520) wd_1521 rfl (Nat.le_of_ble_eq_true rfl) (Nat.le_of_ble_eq_true rfl) (by omega) (by omega) (ls1 := [some (vI 116), some (vI 104), some (vI 97), some (vI 110)]) rfl k
theorem BX13_endOne_48 {d bc bs : Nat} {h : aH} {n : Nat} {Q : aQ} {r0 : Option Nat} {aq0 : Nat} {s1 : Int} {f1 : List aV} (h2 : h aq0 = cO 13 f1) (k : Rn d 0 0 mX13_isWord 0 [some (vR (some aq0)), some (vL s1), none] [] h n (fun v h1 n1 => Rn (d + 1) bc bs mX13_endOne 51 [some (vR r0)] (v.toList ++ []) h1 n1 Q)) : Rn (d + 1) (bc) (bs) mX13_endOne 48 [some (vR r0)] [vL s1, vR (some aq0)] h n Q := by
  exact Rn_callV (ci := 13) (avs := [vL s1]) (st := []) (bc1 := 0) (bs1 := 0) (bc2 := bc) (bs2 := bs) fx_X13_isWord dX13_endOne_48 wd_1529 wd_1531 wd_51 rfl h2 rfl (Nat.le_of_ble_eq_true rfl) (Nat.le_of_ble_eq_true rfl) (by omega) (by omega) (ls1 := [some (vR (some aq0)), some (vL s1), none]) rfl k
theorem BX13_endOne_51 {d bc bs : Nat} {h : aH} {n : Nat} {Q : aQ} {r0 : Option Nat} {s0 : Int} (kt : s0 ≠ 0 → Rn d bc bs mX13_endOne 56 [some (vR r0)] [] h n Q) (kf : s0 = 0 → Rn d bc bs mX13_endOne 54 [some (vR r0)] [] h n Q) : Rn d (bc) (bs) mX13_endOne 51 [some (vR r0)] [vI s0] h n Q := by
  refine Rn_ifne (tgt := 56) dX13_endOne_51 rfl ?_ ?_
  · exact kt
  · exact kf
theorem BX13_endOne_54 {d bc bs : Nat} {h : aH} {n : Nat} {Q : aQ} {r0 : Option Nat} (k : Q (some (vI 1)) h n) : Rn d (bc) (bs) mX13_endOne 54 [some (vR r0)] [] h n Q := by
  refine Rn_iconst dX13_endOne_54 rfl ?_
  exact Rn_ireturn rfl dX13_endOne_55 k
theorem BX13_endOne_56 {d bc bs : Nat} {h : aH} {n : Nat} {Q : aQ} {ar0 : Nat} {f1 : List aV} (h2 : h ar0 = cO 13 f1) (k : Rn d 0 0 mX13_nextToken 0 [some (vR (some ar0)), none] [] h n (fun v h1 n1 => Rn (d + 1) bc bs mX13_endOne 60 [some (vR (some ar0))] (v.toList ++ []) h1 n1 Q)) : Rn (d + 1) (bc) (bs) mX13_endOne 56 [some (vR (some ar0))] [] h n Q := by
  refine Rn_aload_n dX13_endOne_56 rfl rfl rfl ?_
  exact Rn_callV (ci := 13) (avs := []) (st := []) (bc1 := 0) (bs1 := 0) (bc2 := bc) (bs2 := bs) fx_X13_nextToken dX13_endOne_57 wd_1490 wd_1492 wd_47 rfl h2 rfl (Nat.le_of_ble_eq_true rfl) (Nat.le_of_ble_eq_true rfl) (by omega) (by omega) (ls1 := [some (vR (some ar0)), none]) rfl k
theorem BX13_endOne_60 {d bc bs : Nat} {h : aH} {n : Nat} {Q : aQ} {ar0 at3 : Nat} {f1 : List aV} {v5 : Int} {w8 : List Int} (h2 : h ar0 = cO 13 f1) (g4 : f1[15]? = some (vR (some at3))) (g6 : f1[16]? = some (vI v5)) (b7 : -2147483648 ≤ v5 - 1 ∧ v5 - 1 < 2147483648) (h9 : h at3 = cI w8) (i10 : 0 ≤ v5 - 1) (j11 : v5 - 1 < w8.length) (z12 : at3 ≠ 0) (k : Rn d bc bs mX13_endOne 72 [some (vR (some ar0))] [] (up h at3 (cI (w8.set (v5 - 1 : Int).toNat 4))) n Q) : Rn d (bc) (bs) mX13_endOne 60 [some (vR (some ar0))] [] h n Q := by
  refine Rn_aload_n dX13_endOne_60 rfl rfl rfl ?_
  refine Rn_getfield (ci := 13) (k := 15) dX13_endOne_61 rfl in_13 (Nat.le_of_ble_eq_true rfl) wd_1367 rfl h2 g4 ?_
  refine Rn_aload_n dX13_endOne_64 rfl rfl rfl ?_
  refine Rn_getfield (ci := 13) (k := 16) dX13_endOne_65 rfl in_13 (Nat.le_of_ble_eq_true rfl) wd_1368 rfl h2 g6 ?_
  refine Rn_iconst dX13_endOne_68 rfl ?_
  refine Rn_isub dX13_endOne_69 ?_
  rw [w32_id b7.1 b7.2]
  refine Rn_iconst dX13_endOne_70 rfl ?_
  refine Rn_iastore dX13_endOne_71 z12 h9 i10 j11 ?_
  exact k
theorem BX13_endOne_72 {d bc bs : Nat} {h : aH} {n : Nat} {Q : aQ} {ar0 : Nat} {f1 : List aV} (h2 : h ar0 = cO 13 f1) (m3 : 18 < f1.length) (k : Rn d bc bs mX13_endOne 77 [some (vR (some ar0))] [] (up h ar0 (cO 13 (f1.set 18 (vI 0)))) n Q) : Rn d (bc) (bs) mX13_endOne 72 [some (vR (some ar0))] [] h n Q := by
  refine Rn_aload_n dX13_endOne_72 rfl rfl rfl ?_
  refine Rn_iconst dX13_endOne_73 rfl ?_
  refine Rn_putfield (ci := 13) (k := 18) dX13_endOne_74 rfl in_13 tyX13_ok nmX13 (Nat.le_of_ble_eq_true rfl) wd_1370 rfl (Or.inl rfl) (show (0 : Int) = 0 ∨ (0 : Int) = 1 by decide) m3 h2 ?_
  exact k
theorem BX13_endOne_77 {d bc bs : Nat} {h : aH} {n : Nat} {Q : aQ} {r0 : Option Nat} (k : Q (some (vI 0)) h n) : Rn d (bc) (bs) mX13_endOne 77 [some (vR r0)] [] h n Q := by
  refine Rn_iconst dX13_endOne_77 rfl ?_
  exact Rn_ireturn rfl dX13_endOne_78 k
theorem dX13_compareOf_0 : decode cX13_compareOf 0 = .ok (.aload_n 0, 1) := by decide +kernel
theorem dX13_compareOf_1 : decode cX13_compareOf 1 = .ok (.getfield 104, 3) := by decide +kernel
theorem dX13_compareOf_4 : decode cX13_compareOf 4 = .ok (.bipush 60, 2) := by decide +kernel
theorem dX13_compareOf_6 : decode cX13_compareOf 6 = .ok (.if_icmp .ne 8, 3) := by decide +kernel
theorem dX13_compareOf_9 : decode cX13_compareOf 9 = .ok (.bipush 10, 2) := by decide +kernel
theorem dX13_compareOf_11 : decode cX13_compareOf 11 = .ok (.goto 72, 3) := by decide +kernel
theorem dX13_compareOf_14 : decode cX13_compareOf 14 = .ok (.aload_n 0, 1) := by decide +kernel
theorem dX13_compareOf_15 : decode cX13_compareOf 15 = .ok (.getfield 104, 3) := by decide +kernel
theorem dX13_compareOf_18 : decode cX13_compareOf 18 = .ok (.iconst 4, 1) := by decide +kernel
theorem dX13_compareOf_19 : decode cX13_compareOf 19 = .ok (.if_icmp .ne 8, 3) := by decide +kernel
theorem dX13_compareOf_22 : decode cX13_compareOf 22 = .ok (.bipush 11, 2) := by decide +kernel
theorem dX13_compareOf_24 : decode cX13_compareOf 24 = .ok (.goto 59, 3) := by decide +kernel
theorem dX13_compareOf_27 : decode cX13_compareOf 27 = .ok (.aload_n 0, 1) := by decide +kernel
theorem dX13_compareOf_28 : decode cX13_compareOf 28 = .ok (.getfield 104, 3) := by decide +kernel
theorem dX13_compareOf_31 : decode cX13_compareOf 31 = .ok (.bipush 62, 2) := by decide +kernel
theorem dX13_compareOf_33 : decode cX13_compareOf 33 = .ok (.if_icmp .ne 8, 3) := by decide +kernel
theorem dX13_compareOf_36 : decode cX13_compareOf 36 = .ok (.bipush 12, 2) := by decide +kernel
theorem dX13_compareOf_38 : decode cX13_compareOf 38 = .ok (.goto 45, 3) := by decide +kernel
theorem dX13_compareOf_41 : decode cX13_compareOf 41 = .ok (.aload_n 0, 1) := by decide +kernel
theorem dX13_compareOf_42 : decode cX13_compareOf 42 = .ok (.getfield 104, 3) := by decide +kernel
theorem dX13_compareOf_45 : decode cX13_compareOf 45 = .ok (.iconst 5, 1) := by decide +kernel
theorem dX13_compareOf_46 : decode cX13_compareOf 46 = .ok (.if_icmp .ne 8, 3) := by decide +kernel
theorem dX13_compareOf_49 : decode cX13_compareOf 49 = .ok (.bipush 13, 2) := by decide +kernel
theorem dX13_compareOf_51 : decode cX13_compareOf 51 = .ok (.goto 32, 3) := by decide +kernel
theorem dX13_compareOf_54 : decode cX13_compareOf 54 = .ok (.aload_n 0, 1) := by decide +kernel
theorem dX13_compareOf_55 : decode cX13_compareOf 55 = .ok (.getfield 104, 3) := by decide +kernel
theorem dX13_compareOf_58 : decode cX13_compareOf 58 = .ok (.bipush 61, 2) := by decide +kernel
theorem dX13_compareOf_60 : decode cX13_compareOf 60 = .ok (.if_icmp .ne 8, 3) := by decide +kernel
theorem dX13_compareOf_63 : decode cX13_compareOf 63 = .ok (.bipush 14, 2) := by decide +kernel
theorem dX13_compareOf_65 : decode cX13_compareOf 65 = .ok (.goto 18, 3) := by decide +kernel
theorem dX13_compareOf_68 : decode cX13_compareOf 68 = .ok (.aload_n 0, 1) := by decide +kernel
theorem dX13_compareOf_69 : decode cX13_compareOf 69 = .ok (.getfield 104, 3) := by decide +kernel
theorem dX13_compareOf_72 : decode cX13_compareOf 72 = .ok (.bipush 35, 2) := by decide +kernel
theorem dX13_compareOf_74 : decode cX13_compareOf 74 = .ok (.if_icmp .ne 8, 3) := by decide +kernel
theorem dX13_compareOf_77 : decode cX13_compareOf 77 = .ok (.bipush 15, 2) := by decide +kernel
theorem dX13_compareOf_79 : decode cX13_compareOf 79 = .ok (.goto 4, 3) := by decide +kernel
theorem dX13_compareOf_82 : decode cX13_compareOf 82 = .ok (.iconst (-1), 1) := by decide +kernel
theorem dX13_compareOf_83 : decode cX13_compareOf 83 = .ok (.ireturn, 1) := by decide +kernel
theorem BX13_compareOf_0 {d bc bs : Nat} {h : aH} {n : Nat} {Q : aQ} {ar0 : Nat} {f1 : List aV} {v3 : Int} (h2 : h ar0 = cO 13 f1) (g4 : f1[9]? = some (vI v3)) (kt : v3 ≠ 60 → Rn d bc bs mX13_compareOf 14 [some (vR (some ar0))] [] h n Q) (kf : v3 = 60 → Rn d bc bs mX13_compareOf 9 [some (vR (some ar0))] [] h n Q) : Rn d (bc) (bs) mX13_compareOf 0 [some (vR (some ar0))] [] h n Q := by
  refine Rn_aload_n dX13_compareOf_0 rfl rfl rfl ?_
  refine Rn_getfield (ci := 13) (k := 9) dX13_compareOf_1 rfl in_13 (Nat.le_of_ble_eq_true rfl) wd_1361 rfl h2 g4 ?_
  refine Rn_bipush dX13_compareOf_4 rfl ?_
  refine Rn_icmpne (tgt := 14) dX13_compareOf_6 rfl ?_ ?_
  · exact kt
  · exact kf
theorem BX13_compareOf_9 {d bc bs : Nat} {h : aH} {n : Nat} {Q : aQ} {r0 : Option Nat} (k : Q (some (vI 10)) h n) : Rn d (bc) (bs) mX13_compareOf 9 [some (vR r0)] [] h n Q := by
  refine Rn_bipush dX13_compareOf_9 rfl ?_
  refine Rn_goto (tgt := 83) dX13_compareOf_11 rfl ?_
  exact Rn_ireturn rfl dX13_compareOf_83 k
theorem BX13_compareOf_14 {d bc bs : Nat} {h : aH} {n : Nat} {Q : aQ} {ar0 : Nat} {f1 : List aV} {v3 : Int} (h2 : h ar0 = cO 13 f1) (g4 : f1[9]? = some (vI v3)) (kt : v3 ≠ 4 → Rn d bc bs mX13_compareOf 27 [some (vR (some ar0))] [] h n Q) (kf : v3 = 4 → Rn d bc bs mX13_compareOf 22 [some (vR (some ar0))] [] h n Q) : Rn d (bc) (bs) mX13_compareOf 14 [some (vR (some ar0))] [] h n Q := by
  refine Rn_aload_n dX13_compareOf_14 rfl rfl rfl ?_
  refine Rn_getfield (ci := 13) (k := 9) dX13_compareOf_15 rfl in_13 (Nat.le_of_ble_eq_true rfl) wd_1361 rfl h2 g4 ?_
  refine Rn_iconst dX13_compareOf_18 rfl ?_
  refine Rn_icmpne (tgt := 27) dX13_compareOf_19 rfl ?_ ?_
  · exact kt
  · exact kf
theorem BX13_compareOf_22 {d bc bs : Nat} {h : aH} {n : Nat} {Q : aQ} {r0 : Option Nat} (k : Q (some (vI 11)) h n) : Rn d (bc) (bs) mX13_compareOf 22 [some (vR r0)] [] h n Q := by
  refine Rn_bipush dX13_compareOf_22 rfl ?_
  refine Rn_goto (tgt := 83) dX13_compareOf_24 rfl ?_
  exact Rn_ireturn rfl dX13_compareOf_83 k
theorem BX13_compareOf_27 {d bc bs : Nat} {h : aH} {n : Nat} {Q : aQ} {ar0 : Nat} {f1 : List aV} {v3 : Int} (h2 : h ar0 = cO 13 f1) (g4 : f1[9]? = some (vI v3)) (kt : v3 ≠ 62 → Rn d bc bs mX13_compareOf 41 [some (vR (some ar0))] [] h n Q) (kf : v3 = 62 → Rn d bc bs mX13_compareOf 36 [some (vR (some ar0))] [] h n Q) : Rn d (bc) (bs) mX13_compareOf 27 [some (vR (some ar0))] [] h n Q := by
  refine Rn_aload_n dX13_compareOf_27 rfl rfl rfl ?_
  refine Rn_getfield (ci := 13) (k := 9) dX13_compareOf_28 rfl in_13 (Nat.le_of_ble_eq_true rfl) wd_1361 rfl h2 g4 ?_
  refine Rn_bipush dX13_compareOf_31 rfl ?_
  refine Rn_icmpne (tgt := 41) dX13_compareOf_33 rfl ?_ ?_
  · exact kt
  · exact kf
theorem BX13_compareOf_36 {d bc bs : Nat} {h : aH} {n : Nat} {Q : aQ} {r0 : Option Nat} (k : Q (some (vI 12)) h n) : Rn d (bc) (bs) mX13_compareOf 36 [some (vR r0)] [] h n Q := by
  refine Rn_bipush dX13_compareOf_36 rfl ?_
  refine Rn_goto (tgt := 83) dX13_compareOf_38 rfl ?_
  exact Rn_ireturn rfl dX13_compareOf_83 k
theorem BX13_compareOf_41 {d bc bs : Nat} {h : aH} {n : Nat} {Q : aQ} {ar0 : Nat} {f1 : List aV} {v3 : Int} (h2 : h ar0 = cO 13 f1) (g4 : f1[9]? = some (vI v3)) (kt : v3 ≠ 5 → Rn d bc bs mX13_compareOf 54 [some (vR (some ar0))] [] h n Q) (kf : v3 = 5 → Rn d bc bs mX13_compareOf 49 [some (vR (some ar0))] [] h n Q) : Rn d (bc) (bs) mX13_compareOf 41 [some (vR (some ar0))] [] h n Q := by
  refine Rn_aload_n dX13_compareOf_41 rfl rfl rfl ?_
  refine Rn_getfield (ci := 13) (k := 9) dX13_compareOf_42 rfl in_13 (Nat.le_of_ble_eq_true rfl) wd_1361 rfl h2 g4 ?_
  refine Rn_iconst dX13_compareOf_45 rfl ?_
  refine Rn_icmpne (tgt := 54) dX13_compareOf_46 rfl ?_ ?_
  · exact kt
  · exact kf
theorem BX13_compareOf_49 {d bc bs : Nat} {h : aH} {n : Nat} {Q : aQ} {r0 : Option Nat} (k : Q (some (vI 13)) h n) : Rn d (bc) (bs) mX13_compareOf 49 [some (vR r0)] [] h n Q := by
  refine Rn_bipush dX13_compareOf_49 rfl ?_
  refine Rn_goto (tgt := 83) dX13_compareOf_51 rfl ?_
  exact Rn_ireturn rfl dX13_compareOf_83 k
theorem BX13_compareOf_54 {d bc bs : Nat} {h : aH} {n : Nat} {Q : aQ} {ar0 : Nat} {f1 : List aV} {v3 : Int} (h2 : h ar0 = cO 13 f1) (g4 : f1[9]? = some (vI v3)) (kt : v3 ≠ 61 → Rn d bc bs mX13_compareOf 68 [some (vR (some ar0))] [] h n Q) (kf : v3 = 61 → Rn d bc bs mX13_compareOf 63 [some (vR (some ar0))] [] h n Q) : Rn d (bc) (bs) mX13_compareOf 54 [some (vR (some ar0))] [] h n Q := by
  refine Rn_aload_n dX13_compareOf_54 rfl rfl rfl ?_
  refine Rn_getfield (ci := 13) (k := 9) dX13_compareOf_55 rfl in_13 (Nat.le_of_ble_eq_true rfl) wd_1361 rfl h2 g4 ?_
  refine Rn_bipush dX13_compareOf_58 rfl ?_
  refine Rn_icmpne (tgt := 68) dX13_compareOf_60 rfl ?_ ?_
  · exact kt
  · exact kf
theorem BX13_compareOf_63 {d bc bs : Nat} {h : aH} {n : Nat} {Q : aQ} {r0 : Option Nat} (k : Q (some (vI 14)) h n) : Rn d (bc) (bs) mX13_compareOf 63 [some (vR r0)] [] h n Q := by
  refine Rn_bipush dX13_compareOf_63 rfl ?_
  refine Rn_goto (tgt := 83) dX13_compareOf_65 rfl ?_
  exact Rn_ireturn rfl dX13_compareOf_83 k
theorem BX13_compareOf_68 {d bc bs : Nat} {h : aH} {n : Nat} {Q : aQ} {ar0 : Nat} {f1 : List aV} {v3 : Int} (h2 : h ar0 = cO 13 f1) (g4 : f1[9]? = some (vI v3)) (kt : v3 ≠ 35 → Rn d bc bs mX13_compareOf 82 [some (vR (some ar0))] [] h n Q) (kf : v3 = 35 → Rn d bc bs mX13_compareOf 77 [some (vR (some ar0))] [] h n Q) : Rn d (bc) (bs) mX13_compareOf 68 [some (vR (some ar0))] [] h n Q := by
  refine Rn_aload_n dX13_compareOf_68 rfl rfl rfl ?_
  refine Rn_getfield (ci := 13) (k := 9) dX13_compareOf_69 rfl in_13 (Nat.le_of_ble_eq_true rfl) wd_1361 rfl h2 g4 ?_
  refine Rn_bipush dX13_compareOf_72 rfl ?_
  refine Rn_icmpne (tgt := 82) dX13_compareOf_74 rfl ?_ ?_
  · exact kt
  · exact kf
theorem BX13_compareOf_77 {d bc bs : Nat} {h : aH} {n : Nat} {Q : aQ} {r0 : Option Nat} (k : Q (some (vI 15)) h n) : Rn d (bc) (bs) mX13_compareOf 77 [some (vR r0)] [] h n Q := by
  refine Rn_bipush dX13_compareOf_77 rfl ?_
  refine Rn_goto (tgt := 83) dX13_compareOf_79 rfl ?_
  exact Rn_ireturn rfl dX13_compareOf_83 k
theorem BX13_compareOf_82 {d bc bs : Nat} {h : aH} {n : Nat} {Q : aQ} {r0 : Option Nat} (k : Q (some (vI (-1))) h n) : Rn d (bc) (bs) mX13_compareOf 82 [some (vR r0)] [] h n Q := by
  refine Rn_iconst dX13_compareOf_82 rfl ?_
  exact Rn_ireturn rfl dX13_compareOf_83 k
theorem dX13_betweenOf_0 : decode cX13_betweenOf 0 = .ok (.aload_n 0, 1) := by decide +kernel
theorem dX13_betweenOf_1 : decode cX13_betweenOf 1 = .ok (.getfield 104, 3) := by decide +kernel
theorem dX13_betweenOf_4 : decode cX13_betweenOf 4 = .ok (.bipush 43, 2) := by decide +kernel
theorem dX13_betweenOf_6 : decode cX13_betweenOf 6 = .ok (.if_icmp .ne 6, 3) := by decide +kernel
theorem dX13_betweenOf_9 : decode cX13_betweenOf 9 = .ok (.bipush 6, 2) := by decide +kernel
theorem dX13_betweenOf_11 : decode cX13_betweenOf 11 = .ok (.ireturn, 1) := by decide +kernel
theorem dX13_betweenOf_12 : decode cX13_betweenOf 12 = .ok (.aload_n 0, 1) := by decide +kernel
theorem dX13_betweenOf_13 : decode cX13_betweenOf 13 = .ok (.getfield 104, 3) := by decide +kernel
theorem dX13_betweenOf_16 : decode cX13_betweenOf 16 = .ok (.bipush 45, 2) := by decide +kernel
theorem dX13_betweenOf_18 : decode cX13_betweenOf 18 = .ok (.if_icmp .ne 6, 3) := by decide +kernel
theorem dX13_betweenOf_21 : decode cX13_betweenOf 21 = .ok (.bipush 7, 2) := by decide +kernel
theorem dX13_betweenOf_23 : decode cX13_betweenOf 23 = .ok (.ireturn, 1) := by decide +kernel
theorem dX13_betweenOf_24 : decode cX13_betweenOf 24 = .ok (.aload_n 0, 1) := by decide +kernel
theorem dX13_betweenOf_25 : decode cX13_betweenOf 25 = .ok (.getfield 104, 3) := by decide +kernel
theorem dX13_betweenOf_28 : decode cX13_betweenOf 28 = .ok (.bipush 42, 2) := by decide +kernel
theorem dX13_betweenOf_30 : decode cX13_betweenOf 30 = .ok (.if_icmp .ne 6, 3) := by decide +kernel
theorem dX13_betweenOf_33 : decode cX13_betweenOf 33 = .ok (.bipush 8, 2) := by decide +kernel
theorem dX13_betweenOf_35 : decode cX13_betweenOf 35 = .ok (.ireturn, 1) := by decide +kernel
theorem dX13_betweenOf_36 : decode cX13_betweenOf 36 = .ok (.aload_n 0, 1) := by decide +kernel
theorem dX13_betweenOf_37 : decode cX13_betweenOf 37 = .ok (.getfield 104, 3) := by decide +kernel
theorem dX13_betweenOf_40 : decode cX13_betweenOf 40 = .ok (.bipush 47, 2) := by decide +kernel
theorem dX13_betweenOf_42 : decode cX13_betweenOf 42 = .ok (.if_icmp .ne 6, 3) := by decide +kernel
theorem dX13_betweenOf_45 : decode cX13_betweenOf 45 = .ok (.bipush 9, 2) := by decide +kernel
theorem dX13_betweenOf_47 : decode cX13_betweenOf 47 = .ok (.ireturn, 1) := by decide +kernel
theorem dX13_betweenOf_48 : decode cX13_betweenOf 48 = .ok (.aload_n 0, 1) := by decide +kernel
theorem dX13_betweenOf_49 : decode cX13_betweenOf 49 = .ok (.invokevirtual 165, 3) := by decide +kernel
theorem dX13_betweenOf_52 : decode cX13_betweenOf 52 = .ok (.bipush 42, 2) := by decide +kernel
theorem dX13_betweenOf_54 : decode cX13_betweenOf 54 = .ok (.if_icmp .eq 5, 3) := by decide +kernel
theorem dX13_betweenOf_57 : decode cX13_betweenOf 57 = .ok (.iconst (-1), 1) := by decide +kernel
theorem dX13_betweenOf_58 : decode cX13_betweenOf 58 = .ok (.ireturn, 1) := by decide +kernel
theorem dX13_betweenOf_59 : decode cX13_betweenOf 59 = .ok (.aload_n 0, 1) := by decide +kernel
theorem dX13_betweenOf_60 : decode cX13_betweenOf 60 = .ok (.invokevirtual 201, 3) := by decide +kernel
theorem dX13_betweenOf_63 : decode cX13_betweenOf 63 = .ok (.ifCond .ne 8, 3) := by decide +kernel
theorem dX13_betweenOf_66 : decode cX13_betweenOf 66 = .ok (.aload_n 0, 1) := by decide +kernel
theorem dX13_betweenOf_67 : decode cX13_betweenOf 67 = .ok (.invokevirtual 204, 3) := by decide +kernel
theorem dX13_betweenOf_70 : decode cX13_betweenOf 70 = .ok (.ireturn, 1) := by decide +kernel
theorem dX13_betweenOf_71 : decode cX13_betweenOf 71 = .ok (.aload_n 0, 1) := by decide +kernel
theorem dX13_betweenOf_72 : decode cX13_betweenOf 72 = .ok (.bipush 97, 2) := by decide +kernel
theorem dX13_betweenOf_74 : decode cX13_betweenOf 74 = .ok (.bipush 110, 2) := by decide +kernel
theorem dX13_betweenOf_76 : decode cX13_betweenOf 76 = .ok (.bipush 100, 2) := by decide +kernel
theorem dX13_betweenOf_78 : decode cX13_betweenOf 78 = .ok (.invokestatic 130, 3) := by decide +kernel
theorem dX13_betweenOf_81 : decode cX13_betweenOf 81 = .ok (.invokevirtual 183, 3) := by decide +kernel
theorem dX13_betweenOf_84 : decode cX13_betweenOf 84 = .ok (.ifCond .eq 8, 3) := by decide +kernel
theorem dX13_betweenOf_87 : decode cX13_betweenOf 87 = .ok (.bipush 21, 2) := by decide +kernel
theorem dX13_betweenOf_89 : decode cX13_betweenOf 89 = .ok (.goto 23, 3) := by decide +kernel
theorem dX13_betweenOf_92 : decode cX13_betweenOf 92 = .ok (.aload_n 0, 1) := by decide +kernel
theorem dX13_betweenOf_93 : decode cX13_betweenOf 93 = .ok (.bipush 111, 2) := by decide +kernel
theorem dX13_betweenOf_95 : decode cX13_betweenOf 95 = .ok (.bipush 114, 2) := by decide +kernel
theorem dX13_betweenOf_97 : decode cX13_betweenOf 97 = .ok (.invokestatic 126, 3) := by decide +kernel
theorem dX13_betweenOf_100 : decode cX13_betweenOf 100 = .ok (.invokevirtual 183, 3) := by decide +kernel
theorem dX13_betweenOf_103 : decode cX13_betweenOf 103 = .ok (.ifCond .eq 8, 3) := by decide +kernel
theorem dX13_betweenOf_106 : decode cX13_betweenOf 106 = .ok (.bipush 22, 2) := by decide +kernel
theorem dX13_betweenOf_108 : decode cX13_betweenOf 108 = .ok (.goto 4, 3) := by decide +kernel
theorem dX13_betweenOf_111 : decode cX13_betweenOf 111 = .ok (.iconst (-1), 1) := by decide +kernel
theorem dX13_betweenOf_112 : decode cX13_betweenOf 112 = .ok (.ireturn, 1) := by decide +kernel
theorem BX13_betweenOf_0 {d bc bs : Nat} {h : aH} {n : Nat} {Q : aQ} {ar0 : Nat} {f1 : List aV} {v3 : Int} (h2 : h ar0 = cO 13 f1) (g4 : f1[9]? = some (vI v3)) (kt : v3 ≠ 43 → Rn d bc bs mX13_betweenOf 12 [some (vR (some ar0))] [] h n Q) (kf : v3 = 43 → Rn d bc bs mX13_betweenOf 9 [some (vR (some ar0))] [] h n Q) : Rn d (bc) (bs) mX13_betweenOf 0 [some (vR (some ar0))] [] h n Q := by
  refine Rn_aload_n dX13_betweenOf_0 rfl rfl rfl ?_
  refine Rn_getfield (ci := 13) (k := 9) dX13_betweenOf_1 rfl in_13 (Nat.le_of_ble_eq_true rfl) wd_1361 rfl h2 g4 ?_
  refine Rn_bipush dX13_betweenOf_4 rfl ?_
  refine Rn_icmpne (tgt := 12) dX13_betweenOf_6 rfl ?_ ?_
  · exact kt
  · exact kf
theorem BX13_betweenOf_9 {d bc bs : Nat} {h : aH} {n : Nat} {Q : aQ} {r0 : Option Nat} (k : Q (some (vI 6)) h n) : Rn d (bc) (bs) mX13_betweenOf 9 [some (vR r0)] [] h n Q := by
  refine Rn_bipush dX13_betweenOf_9 rfl ?_
  exact Rn_ireturn rfl dX13_betweenOf_11 k
theorem BX13_betweenOf_12 {d bc bs : Nat} {h : aH} {n : Nat} {Q : aQ} {ar0 : Nat} {f1 : List aV} {v3 : Int} (h2 : h ar0 = cO 13 f1) (g4 : f1[9]? = some (vI v3)) (kt : v3 ≠ 45 → Rn d bc bs mX13_betweenOf 24 [some (vR (some ar0))] [] h n Q) (kf : v3 = 45 → Rn d bc bs mX13_betweenOf 21 [some (vR (some ar0))] [] h n Q) : Rn d (bc) (bs) mX13_betweenOf 12 [some (vR (some ar0))] [] h n Q := by
  refine Rn_aload_n dX13_betweenOf_12 rfl rfl rfl ?_
  refine Rn_getfield (ci := 13) (k := 9) dX13_betweenOf_13 rfl in_13 (Nat.le_of_ble_eq_true rfl) wd_1361 rfl h2 g4 ?_
  refine Rn_bipush dX13_betweenOf_16 rfl ?_
  refine Rn_icmpne (tgt := 24) dX13_betweenOf_18 rfl ?_ ?_
  · exact kt
  · exact kf
theorem BX13_betweenOf_21 {d bc bs : Nat} {h : aH} {n : Nat} {Q : aQ} {r0 : Option Nat} (k : Q (some (vI 7)) h n) : Rn d (bc) (bs) mX13_betweenOf 21 [some (vR r0)] [] h n Q := by
  refine Rn_bipush dX13_betweenOf_21 rfl ?_
  exact Rn_ireturn rfl dX13_betweenOf_23 k
theorem BX13_betweenOf_24 {d bc bs : Nat} {h : aH} {n : Nat} {Q : aQ} {ar0 : Nat} {f1 : List aV} {v3 : Int} (h2 : h ar0 = cO 13 f1) (g4 : f1[9]? = some (vI v3)) (kt : v3 ≠ 42 → Rn d bc bs mX13_betweenOf 36 [some (vR (some ar0))] [] h n Q) (kf : v3 = 42 → Rn d bc bs mX13_betweenOf 33 [some (vR (some ar0))] [] h n Q) : Rn d (bc) (bs) mX13_betweenOf 24 [some (vR (some ar0))] [] h n Q := by
  refine Rn_aload_n dX13_betweenOf_24 rfl rfl rfl ?_
  refine Rn_getfield (ci := 13) (k := 9) dX13_betweenOf_25 rfl in_13 (Nat.le_of_ble_eq_true rfl) wd_1361 rfl h2 g4 ?_
  refine Rn_bipush dX13_betweenOf_28 rfl ?_
  refine Rn_icmpne (tgt := 36) dX13_betweenOf_30 rfl ?_ ?_
  · exact kt
  · exact kf
theorem BX13_betweenOf_33 {d bc bs : Nat} {h : aH} {n : Nat} {Q : aQ} {r0 : Option Nat} (k : Q (some (vI 8)) h n) : Rn d (bc) (bs) mX13_betweenOf 33 [some (vR r0)] [] h n Q := by
  refine Rn_bipush dX13_betweenOf_33 rfl ?_
  exact Rn_ireturn rfl dX13_betweenOf_35 k
theorem BX13_betweenOf_36 {d bc bs : Nat} {h : aH} {n : Nat} {Q : aQ} {ar0 : Nat} {f1 : List aV} {v3 : Int} (h2 : h ar0 = cO 13 f1) (g4 : f1[9]? = some (vI v3)) (kt : v3 ≠ 47 → Rn d bc bs mX13_betweenOf 48 [some (vR (some ar0))] [] h n Q) (kf : v3 = 47 → Rn d bc bs mX13_betweenOf 45 [some (vR (some ar0))] [] h n Q) : Rn d (bc) (bs) mX13_betweenOf 36 [some (vR (some ar0))] [] h n Q := by
  refine Rn_aload_n dX13_betweenOf_36 rfl rfl rfl ?_
  refine Rn_getfield (ci := 13) (k := 9) dX13_betweenOf_37 rfl in_13 (Nat.le_of_ble_eq_true rfl) wd_1361 rfl h2 g4 ?_
  refine Rn_bipush dX13_betweenOf_40 rfl ?_
  refine Rn_icmpne (tgt := 48) dX13_betweenOf_42 rfl ?_ ?_
  · exact kt
  · exact kf
theorem BX13_betweenOf_45 {d bc bs : Nat} {h : aH} {n : Nat} {Q : aQ} {r0 : Option Nat} (k : Q (some (vI 9)) h n) : Rn d (bc) (bs) mX13_betweenOf 45 [some (vR r0)] [] h n Q := by
  refine Rn_bipush dX13_betweenOf_45 rfl ?_
  exact Rn_ireturn rfl dX13_betweenOf_47 k
theorem BX13_betweenOf_48 {d bc bs : Nat} {h : aH} {n : Nat} {Q : aQ} {ar0 : Nat} {f1 : List aV} (h2 : h ar0 = cO 13 f1) (k : Rn d 0 0 mX13_openNow 0 [some (vR (some ar0))] [] h n (fun v h1 n1 => Rn (d + 1) bc bs mX13_betweenOf 52 [some (vR (some ar0))] (v.toList ++ []) h1 n1 Q)) : Rn (d + 1) (bc) (bs) mX13_betweenOf 48 [some (vR (some ar0))] [] h n Q := by
  refine Rn_aload_n dX13_betweenOf_48 rfl rfl rfl ?_
  exact Rn_callV (ci := 13) (avs := []) (st := []) (bc1 := 0) (bs1 := 0) (bc2 := bc) (bs2 := bs) fx_X13_openNow dX13_betweenOf_49 wd_1575 wd_1577 wd_61 rfl h2 rfl (Nat.le_of_ble_eq_true rfl) (Nat.le_of_ble_eq_true rfl) (by omega) (by omega) (ls1 := [some (vR (some ar0))]) rfl k
theorem BX13_betweenOf_52 {d bc bs : Nat} {h : aH} {n : Nat} {Q : aQ} {r0 : Option Nat} {s0 : Int} (kt : s0 = 42 → Rn d bc bs mX13_betweenOf 59 [some (vR r0)] [] h n Q) (kf : s0 ≠ 42 → Rn d bc bs mX13_betweenOf 57 [some (vR r0)] [] h n Q) : Rn d (bc) (bs) mX13_betweenOf 52 [some (vR r0)] [vI s0] h n Q := by
  refine Rn_bipush dX13_betweenOf_52 rfl ?_
  refine Rn_icmpeq (tgt := 59) dX13_betweenOf_54 rfl ?_ ?_
  · exact kt
  · exact kf
theorem BX13_betweenOf_57 {d bc bs : Nat} {h : aH} {n : Nat} {Q : aQ} {r0 : Option Nat} (k : Q (some (vI (-1))) h n) : Rn d (bc) (bs) mX13_betweenOf 57 [some (vR r0)] [] h n Q := by
  refine Rn_iconst dX13_betweenOf_57 rfl ?_
  exact Rn_ireturn rfl dX13_betweenOf_58 k
theorem BX13_betweenOf_59 {d bc bs : Nat} {h : aH} {n : Nat} {Q : aQ} {ar0 : Nat} {f1 : List aV} (h2 : h ar0 = cO 13 f1) (k : Rn d 0 0 mX13_isCompared 0 [some (vR (some ar0)), none] [] h n (fun v h1 n1 => Rn (d + 1) bc bs mX13_betweenOf 63 [some (vR (some ar0))] (v.toList ++ []) h1 n1 Q)) : Rn (d + 1) (bc) (bs) mX13_betweenOf 59 [some (vR (some ar0))] [] h n Q := by
  refine Rn_aload_n dX13_betweenOf_59 rfl rfl rfl ?_
  exact Rn_callV (ci := 13) (avs := []) (st := []) (bc1 := 0) (bs1 := 0) (bc2 := bc) (bs2 := bs) fx_X13_isCompared dX13_betweenOf_60 wd_1583 wd_1585 wd_63 rfl h2 rfl (Nat.le_of_ble_eq_true rfl) (Nat.le_of_ble_eq_true rfl) (by omega) (by omega) (ls1 := [some (vR (some ar0)), none]) rfl k
theorem BX13_betweenOf_63 {d bc bs : Nat} {h : aH} {n : Nat} {Q : aQ} {r0 : Option Nat} {s0 : Int} (kt : s0 ≠ 0 → Rn d bc bs mX13_betweenOf 71 [some (vR r0)] [] h n Q) (kf : s0 = 0 → Rn d bc bs mX13_betweenOf 66 [some (vR r0)] [] h n Q) : Rn d (bc) (bs) mX13_betweenOf 63 [some (vR r0)] [vI s0] h n Q := by
  refine Rn_ifne (tgt := 71) dX13_betweenOf_63 rfl ?_ ?_
  · exact kt
  · exact kf
theorem BX13_betweenOf_66 {d bc bs : Nat} {h : aH} {n : Nat} {Q : aQ} {ar0 : Nat} {f1 : List aV} (h2 : h ar0 = cO 13 f1) (k : Rn d 0 0 mX13_compareOf 0 [some (vR (some ar0))] [] h n (fun v h1 n1 => Rn (d + 1) bc bs mX13_betweenOf 70 [some (vR (some ar0))] (v.toList ++ []) h1 n1 Q)) : Rn (d + 1) (bc) (bs) mX13_betweenOf 66 [some (vR (some ar0))] [] h n Q := by
  refine Rn_aload_n dX13_betweenOf_66 rfl rfl rfl ?_
  exact Rn_callV (ci := 13) (avs := []) (st := []) (bc1 := 0) (bs1 := 0) (bc2 := bc) (bs2 := bs) fx_X13_compareOf dX13_betweenOf_67 wd_1590 wd_1592 wd_64 rfl h2 rfl (Nat.le_of_ble_eq_true rfl) (Nat.le_of_ble_eq_true rfl) (by omega) (by omega) (ls1 := [some (vR (some ar0))]) rfl k
theorem BX13_betweenOf_70 {d bc bs : Nat} {h : aH} {n : Nat} {Q : aQ} {r0 : Option Nat} {s0 : Int} (k : Q (some (vI s0)) h n) : Rn d (bc) (bs) mX13_betweenOf 70 [some (vR r0)] [vI s0] h n Q := by
  exact Rn_ireturn rfl dX13_betweenOf_70 k
theorem BX13_betweenOf_71 {d bc bs : Nat} {h : aH} {n : Nat} {Q : aQ} {r0 : Option Nat} (k : Rn d 0 0 mX13_w3 0 [some (vI 97), some (vI 110), some (vI 100)] [] h n (fun v h1 n1 => Rn (d + 1) bc bs mX13_betweenOf 81 [some (vR r0)] (v.toList ++ [vR r0]) h1 n1 Q)) : Rn (d + 1) (bc) (bs) mX13_betweenOf 71 [some (vR r0)] [] h n Q := by
  refine Rn_aload_n dX13_betweenOf_71 rfl rfl rfl ?_
  refine Rn_bipush dX13_betweenOf_72 rfl ?_
  refine Rn_bipush dX13_betweenOf_74 rfl ?_
  refine Rn_bipush dX13_betweenOf_76 rfl ?_
  exact Rn_callS (avs := [vI 97, vI 110, vI 100]) (st := [vR r0]) (bc1 := 0) (bs1 := 0) (bc2 := bc) (bs2 := bs) fx_X13_w3 dX13_betweenOf_78 (Or.inl wd_1523) wd_1524 rfl (Nat.le_of_ble_eq_true rfl) (Nat.le_of_ble_eq_true rfl) (by omega) (by omega) (ls1 := [some (vI 97), some (vI 110), some (vI 100)]) rfl k
theorem BX13_betweenOf_81 {d bc bs : Nat} {h : aH} {n : Nat} {Q : aQ} {r0 : Option Nat} {aq0 : Nat} {s1 : Int} {f1 : List aV} (h2 : h aq0 = cO 13 f1) (k : Rn d 0 0 mX13_isWord 0 [some (vR (some aq0)), some (vL s1), none] [] h n (fun v h1 n1 => Rn (d + 1) bc bs mX13_betweenOf 84 [some (vR r0)] (v.toList ++ []) h1 n1 Q)) : Rn (d + 1) (bc) (bs) mX13_betweenOf 81 [some (vR r0)] [vL s1, vR (some aq0)] h n Q := by
  exact Rn_callV (ci := 13) (avs := [vL s1]) (st := []) (bc1 := 0) (bs1 := 0) (bc2 := bc) (bs2 := bs) fx_X13_isWord dX13_betweenOf_81 wd_1529 wd_1531 wd_51 rfl h2 rfl (Nat.le_of_ble_eq_true rfl) (Nat.le_of_ble_eq_true rfl) (by omega) (by omega) (ls1 := [some (vR (some aq0)), some (vL s1), none]) rfl k
theorem BX13_betweenOf_84 {d bc bs : Nat} {h : aH} {n : Nat} {Q : aQ} {r0 : Option Nat} {s0 : Int} (kt : s0 = 0 → Rn d bc bs mX13_betweenOf 92 [some (vR r0)] [] h n Q) (kf : s0 ≠ 0 → Rn d bc bs mX13_betweenOf 87 [some (vR r0)] [] h n Q) : Rn d (bc) (bs) mX13_betweenOf 84 [some (vR r0)] [vI s0] h n Q := by
  refine Rn_ifeq (tgt := 92) dX13_betweenOf_84 rfl ?_ ?_
  · exact kt
  · exact kf
theorem BX13_betweenOf_87 {d bc bs : Nat} {h : aH} {n : Nat} {Q : aQ} {r0 : Option Nat} (k : Q (some (vI 21)) h n) : Rn d (bc) (bs) mX13_betweenOf 87 [some (vR r0)] [] h n Q := by
  refine Rn_bipush dX13_betweenOf_87 rfl ?_
  refine Rn_goto (tgt := 112) dX13_betweenOf_89 rfl ?_
  exact Rn_ireturn rfl dX13_betweenOf_112 k
theorem BX13_betweenOf_92 {d bc bs : Nat} {h : aH} {n : Nat} {Q : aQ} {r0 : Option Nat} (k : Rn d 0 0 mX13_w2 0 [some (vI 111), some (vI 114)] [] h n (fun v h1 n1 => Rn (d + 1) bc bs mX13_betweenOf 100 [some (vR r0)] (v.toList ++ [vR r0]) h1 n1 Q)) : Rn (d + 1) (bc) (bs) mX13_betweenOf 92 [some (vR r0)] [] h n Q := by
  refine Rn_aload_n dX13_betweenOf_92 rfl rfl rfl ?_
  refine Rn_bipush dX13_betweenOf_93 rfl ?_
  refine Rn_bipush dX13_betweenOf_95 rfl ?_
  exact Rn_callS (avs := [vI 111, vI 114]) (st := [vR r0]) (bc1 := 0) (bs1 := 0) (bc2 := bc) (bs2 := bs) fx_X13_w2 dX13_betweenOf_97 (Or.inl wd_1526) wd_1527 rfl (Nat.le_of_ble_eq_true rfl) (Nat.le_of_ble_eq_true rfl) (by omega) (by omega) (ls1 := [some (vI 111), some (vI 114)]) rfl k
theorem BX13_betweenOf_100 {d bc bs : Nat} {h : aH} {n : Nat} {Q : aQ} {r0 : Option Nat} {aq0 : Nat} {s1 : Int} {f1 : List aV} (h2 : h aq0 = cO 13 f1) (k : Rn d 0 0 mX13_isWord 0 [some (vR (some aq0)), some (vL s1), none] [] h n (fun v h1 n1 => Rn (d + 1) bc bs mX13_betweenOf 103 [some (vR r0)] (v.toList ++ []) h1 n1 Q)) : Rn (d + 1) (bc) (bs) mX13_betweenOf 100 [some (vR r0)] [vL s1, vR (some aq0)] h n Q := by
  exact Rn_callV (ci := 13) (avs := [vL s1]) (st := []) (bc1 := 0) (bs1 := 0) (bc2 := bc) (bs2 := bs) fx_X13_isWord dX13_betweenOf_100 wd_1529 wd_1531 wd_51 rfl h2 rfl (Nat.le_of_ble_eq_true rfl) (Nat.le_of_ble_eq_true rfl) (by omega) (by omega) (ls1 := [some (vR (some aq0)), some (vL s1), none]) rfl k
theorem BX13_betweenOf_103 {d bc bs : Nat} {h : aH} {n : Nat} {Q : aQ} {r0 : Option Nat} {s0 : Int} (kt : s0 = 0 → Rn d bc bs mX13_betweenOf 111 [some (vR r0)] [] h n Q) (kf : s0 ≠ 0 → Rn d bc bs mX13_betweenOf 106 [some (vR r0)] [] h n Q) : Rn d (bc) (bs) mX13_betweenOf 103 [some (vR r0)] [vI s0] h n Q := by
  refine Rn_ifeq (tgt := 111) dX13_betweenOf_103 rfl ?_ ?_
  · exact kt
  · exact kf
theorem BX13_betweenOf_106 {d bc bs : Nat} {h : aH} {n : Nat} {Q : aQ} {r0 : Option Nat} (k : Q (some (vI 22)) h n) : Rn d (bc) (bs) mX13_betweenOf 106 [some (vR r0)] [] h n Q := by
  refine Rn_bipush dX13_betweenOf_106 rfl ?_
  refine Rn_goto (tgt := 112) dX13_betweenOf_108 rfl ?_
  exact Rn_ireturn rfl dX13_betweenOf_112 k
theorem BX13_betweenOf_111 {d bc bs : Nat} {h : aH} {n : Nat} {Q : aQ} {r0 : Option Nat} (k : Q (some (vI (-1))) h n) : Rn d (bc) (bs) mX13_betweenOf 111 [some (vR r0)] [] h n Q := by
  refine Rn_iconst dX13_betweenOf_111 rfl ?_
  exact Rn_ireturn rfl dX13_betweenOf_112 k
theorem dX13_partOf_0 : decode cX13_partOf 0 = .ok (.iload_n 1, 1) := by decide +kernel
theorem dX13_partOf_1 : decode cX13_partOf 1 = .ok (.tableswitch 129 40 44 #[35, 129, 50, 82, 107], 35) := by decide +kernel
theorem dX13_partOf_36 : decode cX13_partOf 36 = .ok (.aload_n 0, 1) := by decide +kernel
theorem dX13_partOf_37 : decode cX13_partOf 37 = .ok (.getfield 104, 3) := by decide +kernel
theorem dX13_partOf_40 : decode cX13_partOf 40 = .ok (.bipush 41, 2) := by decide +kernel
theorem dX13_partOf_42 : decode cX13_partOf 42 = .ok (.if_icmp .ne 7, 3) := by decide +kernel
theorem dX13_partOf_45 : decode cX13_partOf 45 = .ok (.iconst 0, 1) := by decide +kernel
theorem dX13_partOf_46 : decode cX13_partOf 46 = .ok (.goto 4, 3) := by decide +kernel
theorem dX13_partOf_49 : decode cX13_partOf 49 = .ok (.iconst (-1), 1) := by decide +kernel
theorem dX13_partOf_50 : decode cX13_partOf 50 = .ok (.ireturn, 1) := by decide +kernel
theorem dX13_partOf_51 : decode cX13_partOf 51 = .ok (.aload_n 0, 1) := by decide +kernel
theorem dX13_partOf_52 : decode cX13_partOf 52 = .ok (.bipush 116, 2) := by decide +kernel
theorem dX13_partOf_54 : decode cX13_partOf 54 = .ok (.bipush 104, 2) := by decide +kernel
theorem dX13_partOf_56 : decode cX13_partOf 56 = .ok (.bipush 101, 2) := by decide +kernel
theorem dX13_partOf_58 : decode cX13_partOf 58 = .ok (.bipush 110, 2) := by decide +kernel
theorem dX13_partOf_60 : decode cX13_partOf 60 = .ok (.invokestatic 134, 3) := by decide +kernel
theorem dX13_partOf_63 : decode cX13_partOf 63 = .ok (.invokevirtual 183, 3) := by decide +kernel
theorem dX13_partOf_66 : decode cX13_partOf 66 = .ok (.ifCond .eq 15, 3) := by decide +kernel
theorem dX13_partOf_69 : decode cX13_partOf 69 = .ok (.aload_n 0, 1) := by decide +kernel
theorem dX13_partOf_70 : decode cX13_partOf 70 = .ok (.invokevirtual 201, 3) := by decide +kernel
theorem dX13_partOf_73 : decode cX13_partOf 73 = .ok (.ifCond .eq 8, 3) := by decide +kernel
theorem dX13_partOf_76 : decode cX13_partOf 76 = .ok (.bipush 43, 2) := by decide +kernel
theorem dX13_partOf_78 : decode cX13_partOf 78 = .ok (.goto 4, 3) := by decide +kernel
theorem dX13_partOf_81 : decode cX13_partOf 81 = .ok (.iconst (-1), 1) := by decide +kernel
theorem dX13_partOf_82 : decode cX13_partOf 82 = .ok (.ireturn, 1) := by decide +kernel
theorem dX13_partOf_83 : decode cX13_partOf 83 = .ok (.aload_n 0, 1) := by decide +kernel
theorem dX13_partOf_84 : decode cX13_partOf 84 = .ok (.bipush 101, 2) := by decide +kernel
theorem dX13_partOf_86 : decode cX13_partOf 86 = .ok (.bipush 108, 2) := by decide +kernel
theorem dX13_partOf_88 : decode cX13_partOf 88 = .ok (.bipush 115, 2) := by decide +kernel
theorem dX13_partOf_90 : decode cX13_partOf 90 = .ok (.bipush 101, 2) := by decide +kernel
theorem dX13_partOf_92 : decode cX13_partOf 92 = .ok (.invokestatic 134, 3) := by decide +kernel
theorem dX13_partOf_95 : decode cX13_partOf 95 = .ok (.invokevirtual 183, 3) := by decide +kernel
theorem dX13_partOf_98 : decode cX13_partOf 98 = .ok (.ifCond .eq 8, 3) := by decide +kernel
theorem dX13_partOf_101 : decode cX13_partOf 101 = .ok (.bipush 44, 2) := by decide +kernel
theorem dX13_partOf_103 : decode cX13_partOf 103 = .ok (.goto 4, 3) := by decide +kernel
theorem dX13_partOf_106 : decode cX13_partOf 106 = .ok (.iconst (-1), 1) := by decide +kernel
theorem dX13_partOf_107 : decode cX13_partOf 107 = .ok (.ireturn, 1) := by decide +kernel
theorem dX13_partOf_108 : decode cX13_partOf 108 = .ok (.aload_n 0, 1) := by decide +kernel
theorem dX13_partOf_109 : decode cX13_partOf 109 = .ok (.bipush 101, 2) := by decide +kernel
theorem dX13_partOf_111 : decode cX13_partOf 111 = .ok (.bipush 110, 2) := by decide +kernel
theorem dX13_partOf_113 : decode cX13_partOf 113 = .ok (.bipush 100, 2) := by decide +kernel
theorem dX13_partOf_115 : decode cX13_partOf 115 = .ok (.invokestatic 130, 3) := by decide +kernel
theorem dX13_partOf_118 : decode cX13_partOf 118 = .ok (.invokevirtual 183, 3) := by decide +kernel
theorem dX13_partOf_121 : decode cX13_partOf 121 = .ok (.ifCond .eq 7, 3) := by decide +kernel
theorem dX13_partOf_124 : decode cX13_partOf 124 = .ok (.iconst 0, 1) := by decide +kernel
theorem dX13_partOf_125 : decode cX13_partOf 125 = .ok (.goto 4, 3) := by decide +kernel
theorem dX13_partOf_128 : decode cX13_partOf 128 = .ok (.iconst (-1), 1) := by decide +kernel
theorem dX13_partOf_129 : decode cX13_partOf 129 = .ok (.ireturn, 1) := by decide +kernel
theorem dX13_partOf_130 : decode cX13_partOf 130 = .ok (.iconst (-1), 1) := by decide +kernel
theorem dX13_partOf_131 : decode cX13_partOf 131 = .ok (.ireturn, 1) := by decide +kernel
theorem BX13_partOf_0 {d bc bs : Nat} {h : aH} {n : Nat} {Q : aQ} {r0 : Option Nat} {x1 : Int} (kd : (x1 < 40 ∨ 44 < x1) → Rn d bc bs mX13_partOf 130 [some (vR r0), some (vI x1)] [] h n Q) (k40 : x1 = 40 → Rn d bc bs mX13_partOf 36 [some (vR r0), some (vI x1)] [] h n Q) (k41 : x1 = 41 → Rn d bc bs mX13_partOf 130 [some (vR r0), some (vI x1)] [] h n Q) (k42 : x1 = 42 → Rn d bc bs mX13_partOf 51 [some (vR r0), some (vI x1)] [] h n Q) (k43 : x1 = 43 → Rn d bc bs mX13_partOf 83 [some (vR r0), some (vI x1)] [] h n Q) (k44 : x1 = 44 → Rn d bc bs mX13_partOf 108 [some (vR r0), some (vI x1)] [] h n Q) : Rn d (bc) (bs) mX13_partOf 0 [some (vR r0), some (vI x1)] [] h n Q := by
  refine Rn_iload_n dX13_partOf_0 rfl rfl ?_
  by_cases hq : x1 < 40 ∨ 44 < x1
  · exact Rn_tableOut (tgt := 130) dX13_partOf_1 hq rfl (kd hq)
  rcases (show x1 = 40 ∨ x1 = 41 ∨ x1 = 42 ∨ x1 = 43 ∨ x1 = 44 by omega) with hz | hz | hz | hz | hz
  · exact Rn_tableIn (tgt := 36) dX13_partOf_1 (by omega) (by omega) (by rw [hz] <;> rfl) rfl (k40 hz)
  · exact Rn_tableIn (tgt := 130) dX13_partOf_1 (by omega) (by omega) (by rw [hz] <;> rfl) rfl (k41 hz)
  · exact Rn_tableIn (tgt := 51) dX13_partOf_1 (by omega) (by omega) (by rw [hz] <;> rfl) rfl (k42 hz)
  · exact Rn_tableIn (tgt := 83) dX13_partOf_1 (by omega) (by omega) (by rw [hz] <;> rfl) rfl (k43 hz)
  · exact Rn_tableIn (tgt := 108) dX13_partOf_1 (by omega) (by omega) (by rw [hz] <;> rfl) rfl (k44 hz)
theorem BX13_partOf_36 {d bc bs : Nat} {h : aH} {n : Nat} {Q : aQ} {ar0 : Nat} {x1 v3 : Int} {f1 : List aV} (h2 : h ar0 = cO 13 f1) (g4 : f1[9]? = some (vI v3)) (kt : v3 ≠ 41 → Rn d bc bs mX13_partOf 49 [some (vR (some ar0)), some (vI x1)] [] h n Q) (kf : v3 = 41 → Rn d bc bs mX13_partOf 45 [some (vR (some ar0)), some (vI x1)] [] h n Q) : Rn d (bc) (bs) mX13_partOf 36 [some (vR (some ar0)), some (vI x1)] [] h n Q := by
  refine Rn_aload_n dX13_partOf_36 rfl rfl rfl ?_
  refine Rn_getfield (ci := 13) (k := 9) dX13_partOf_37 rfl in_13 (Nat.le_of_ble_eq_true rfl) wd_1361 rfl h2 g4 ?_
  refine Rn_bipush dX13_partOf_40 rfl ?_
  refine Rn_icmpne (tgt := 49) dX13_partOf_42 rfl ?_ ?_
  · exact kt
  · exact kf
theorem BX13_partOf_45 {d bc bs : Nat} {h : aH} {n : Nat} {Q : aQ} {r0 : Option Nat} {x1 : Int} (k : Q (some (vI 0)) h n) : Rn d (bc) (bs) mX13_partOf 45 [some (vR r0), some (vI x1)] [] h n Q := by
  refine Rn_iconst dX13_partOf_45 rfl ?_
  refine Rn_goto (tgt := 50) dX13_partOf_46 rfl ?_
  exact Rn_ireturn rfl dX13_partOf_50 k
theorem BX13_partOf_49 {d bc bs : Nat} {h : aH} {n : Nat} {Q : aQ} {r0 : Option Nat} {x1 : Int} (k : Q (some (vI (-1))) h n) : Rn d (bc) (bs) mX13_partOf 49 [some (vR r0), some (vI x1)] [] h n Q := by
  refine Rn_iconst dX13_partOf_49 rfl ?_
  exact Rn_ireturn rfl dX13_partOf_50 k
theorem BX13_partOf_51 {d bc bs : Nat} {h : aH} {n : Nat} {Q : aQ} {r0 : Option Nat} {x1 : Int} (k : Rn d 0 0 mX13_w4 0 [some (vI 116), some (vI 104), some (vI 101), some (vI 110)] [] h n (fun v h1 n1 => Rn (d + 1) bc bs mX13_partOf 63 [some (vR r0), some (vI x1)] (v.toList ++ [vR r0]) h1 n1 Q)) : Rn (d + 1) (bc) (bs) mX13_partOf 51 [some (vR r0), some (vI x1)] [] h n Q := by
  refine Rn_aload_n dX13_partOf_51 rfl rfl rfl ?_
  refine Rn_bipush dX13_partOf_52 rfl ?_
  refine Rn_bipush dX13_partOf_54 rfl ?_
  refine Rn_bipush dX13_partOf_56 rfl ?_
  refine Rn_bipush dX13_partOf_58 rfl ?_
  exact Rn_callS (avs := [vI 116, vI 104, vI 101, vI 110]) (st := [vR r0]) (bc1 := 0) (bs1 := 0) (bc2 := bc) (bs2 := bs) fx_X13_w4 dX13_partOf_60 (Or.inl wd_1520) wd_1521 rfl (Nat.le_of_ble_eq_true rfl) (Nat.le_of_ble_eq_true rfl) (by omega) (by omega) (ls1 := [some (vI 116), some (vI 104), some (vI 101), some (vI 110)]) rfl k
theorem BX13_partOf_63 {d bc bs : Nat} {h : aH} {n : Nat} {Q : aQ} {r0 : Option Nat} {x1 s1 : Int} {aq0 : Nat} {f1 : List aV} (h2 : h aq0 = cO 13 f1) (k : Rn d 0 0 mX13_isWord 0 [some (vR (some aq0)), some (vL s1), none] [] h n (fun v h1 n1 => Rn (d + 1) bc bs mX13_partOf 66 [some (vR r0), some (vI x1)] (v.toList ++ []) h1 n1 Q)) : Rn (d + 1) (bc) (bs) mX13_partOf 63 [some (vR r0), some (vI x1)] [vL s1, vR (some aq0)] h n Q := by
  exact Rn_callV (ci := 13) (avs := [vL s1]) (st := []) (bc1 := 0) (bs1 := 0) (bc2 := bc) (bs2 := bs) fx_X13_isWord dX13_partOf_63 wd_1529 wd_1531 wd_51 rfl h2 rfl (Nat.le_of_ble_eq_true rfl) (Nat.le_of_ble_eq_true rfl) (by omega) (by omega) (ls1 := [some (vR (some aq0)), some (vL s1), none]) rfl k
theorem BX13_partOf_66 {d bc bs : Nat} {h : aH} {n : Nat} {Q : aQ} {r0 : Option Nat} {x1 s0 : Int} (kt : s0 = 0 → Rn d bc bs mX13_partOf 81 [some (vR r0), some (vI x1)] [] h n Q) (kf : s0 ≠ 0 → Rn d bc bs mX13_partOf 69 [some (vR r0), some (vI x1)] [] h n Q) : Rn d (bc) (bs) mX13_partOf 66 [some (vR r0), some (vI x1)] [vI s0] h n Q := by
  refine Rn_ifeq (tgt := 81) dX13_partOf_66 rfl ?_ ?_
  · exact kt
  · exact kf
theorem BX13_partOf_69 {d bc bs : Nat} {h : aH} {n : Nat} {Q : aQ} {ar0 : Nat} {x1 : Int} {f1 : List aV} (h2 : h ar0 = cO 13 f1) (k : Rn d 0 0 mX13_isCompared 0 [some (vR (some ar0)), none] [] h n (fun v h1 n1 => Rn (d + 1) bc bs mX13_partOf 73 [some (vR (some ar0)), some (vI x1)] (v.toList ++ []) h1 n1 Q)) : Rn (d + 1) (bc) (bs) mX13_partOf 69 [some (vR (some ar0)), some (vI x1)] [] h n Q := by
  refine Rn_aload_n dX13_partOf_69 rfl rfl rfl ?_
  exact Rn_callV (ci := 13) (avs := []) (st := []) (bc1 := 0) (bs1 := 0) (bc2 := bc) (bs2 := bs) fx_X13_isCompared dX13_partOf_70 wd_1583 wd_1585 wd_63 rfl h2 rfl (Nat.le_of_ble_eq_true rfl) (Nat.le_of_ble_eq_true rfl) (by omega) (by omega) (ls1 := [some (vR (some ar0)), none]) rfl k
theorem BX13_partOf_73 {d bc bs : Nat} {h : aH} {n : Nat} {Q : aQ} {r0 : Option Nat} {x1 s0 : Int} (kt : s0 = 0 → Rn d bc bs mX13_partOf 81 [some (vR r0), some (vI x1)] [] h n Q) (kf : s0 ≠ 0 → Rn d bc bs mX13_partOf 76 [some (vR r0), some (vI x1)] [] h n Q) : Rn d (bc) (bs) mX13_partOf 73 [some (vR r0), some (vI x1)] [vI s0] h n Q := by
  refine Rn_ifeq (tgt := 81) dX13_partOf_73 rfl ?_ ?_
  · exact kt
  · exact kf
theorem BX13_partOf_76 {d bc bs : Nat} {h : aH} {n : Nat} {Q : aQ} {r0 : Option Nat} {x1 : Int} (k : Q (some (vI 43)) h n) : Rn d (bc) (bs) mX13_partOf 76 [some (vR r0), some (vI x1)] [] h n Q := by
  refine Rn_bipush dX13_partOf_76 rfl ?_
  refine Rn_goto (tgt := 82) dX13_partOf_78 rfl ?_
  exact Rn_ireturn rfl dX13_partOf_82 k
theorem BX13_partOf_81 {d bc bs : Nat} {h : aH} {n : Nat} {Q : aQ} {r0 : Option Nat} {x1 : Int} (k : Q (some (vI (-1))) h n) : Rn d (bc) (bs) mX13_partOf 81 [some (vR r0), some (vI x1)] [] h n Q := by
  refine Rn_iconst dX13_partOf_81 rfl ?_
  exact Rn_ireturn rfl dX13_partOf_82 k
theorem BX13_partOf_83 {d bc bs : Nat} {h : aH} {n : Nat} {Q : aQ} {r0 : Option Nat} {x1 : Int} (k : Rn d 0 0 mX13_w4 0 [some (vI 101), some (vI 108), some (vI 115), some (vI 101)] [] h n (fun v h1 n1 => Rn (d + 1) bc bs mX13_partOf 95 [some (vR r0), some (vI x1)] (v.toList ++ [vR r0]) h1 n1 Q)) : Rn (d + 1) (bc) (bs) mX13_partOf 83 [some (vR r0), some (vI x1)] [] h n Q := by
  refine Rn_aload_n dX13_partOf_83 rfl rfl rfl ?_
  refine Rn_bipush dX13_partOf_84 rfl ?_
  refine Rn_bipush dX13_partOf_86 rfl ?_
  refine Rn_bipush dX13_partOf_88 rfl ?_
  refine Rn_bipush dX13_partOf_90 rfl ?_
  exact Rn_callS (avs := [vI 101, vI 108, vI 115, vI 101]) (st := [vR r0]) (bc1 := 0) (bs1 := 0) (bc2 := bc) (bs2 := bs) fx_X13_w4 dX13_partOf_92 (Or.inl wd_1520) wd_1521 rfl (Nat.le_of_ble_eq_true rfl) (Nat.le_of_ble_eq_true rfl) (by omega) (by omega) (ls1 := [some (vI 101), some (vI 108), some (vI 115), some (vI 101)]) rfl k
theorem BX13_partOf_95 {d bc bs : Nat} {h : aH} {n : Nat} {Q : aQ} {r0 : Option Nat} {x1 s1 : Int} {aq0 : Nat} {f1 : List aV} (h2 : h aq0 = cO 13 f1) (k : Rn d 0 0 mX13_isWord 0 [some (vR (some aq0)), some (vL s1), none] [] h n (fun v h1 n1 => Rn (d + 1) bc bs mX13_partOf 98 [some (vR r0), some (vI x1)] (v.toList ++ []) h1 n1 Q)) : Rn (d + 1) (bc) (bs) mX13_partOf 95 [some (vR r0), some (vI x1)] [vL s1, vR (some aq0)] h n Q := by
  exact Rn_callV (ci := 13) (avs := [vL s1]) (st := []) (bc1 := 0) (bs1 := 0) (bc2 := bc) (bs2 := bs) fx_X13_isWord dX13_partOf_95 wd_1529 wd_1531 wd_51 rfl h2 rfl (Nat.le_of_ble_eq_true rfl) (Nat.le_of_ble_eq_true rfl) (by omega) (by omega) (ls1 := [some (vR (some aq0)), some (vL s1), none]) rfl k
theorem BX13_partOf_98 {d bc bs : Nat} {h : aH} {n : Nat} {Q : aQ} {r0 : Option Nat} {x1 s0 : Int} (kt : s0 = 0 → Rn d bc bs mX13_partOf 106 [some (vR r0), some (vI x1)] [] h n Q) (kf : s0 ≠ 0 → Rn d bc bs mX13_partOf 101 [some (vR r0), some (vI x1)] [] h n Q) : Rn d (bc) (bs) mX13_partOf 98 [some (vR r0), some (vI x1)] [vI s0] h n Q := by
  refine Rn_ifeq (tgt := 106) dX13_partOf_98 rfl ?_ ?_
  · exact kt
  · exact kf
theorem BX13_partOf_101 {d bc bs : Nat} {h : aH} {n : Nat} {Q : aQ} {r0 : Option Nat} {x1 : Int} (k : Q (some (vI 44)) h n) : Rn d (bc) (bs) mX13_partOf 101 [some (vR r0), some (vI x1)] [] h n Q := by
  refine Rn_bipush dX13_partOf_101 rfl ?_
  refine Rn_goto (tgt := 107) dX13_partOf_103 rfl ?_
  exact Rn_ireturn rfl dX13_partOf_107 k
theorem BX13_partOf_106 {d bc bs : Nat} {h : aH} {n : Nat} {Q : aQ} {r0 : Option Nat} {x1 : Int} (k : Q (some (vI (-1))) h n) : Rn d (bc) (bs) mX13_partOf 106 [some (vR r0), some (vI x1)] [] h n Q := by
  refine Rn_iconst dX13_partOf_106 rfl ?_
  exact Rn_ireturn rfl dX13_partOf_107 k
theorem BX13_partOf_108 {d bc bs : Nat} {h : aH} {n : Nat} {Q : aQ} {r0 : Option Nat} {x1 : Int} (k : Rn d 0 0 mX13_w3 0 [some (vI 101), some (vI 110), some (vI 100)] [] h n (fun v h1 n1 => Rn (d + 1) bc bs mX13_partOf 118 [some (vR r0), some (vI x1)] (v.toList ++ [vR r0]) h1 n1 Q)) : Rn (d + 1) (bc) (bs) mX13_partOf 108 [some (vR r0), some (vI x1)] [] h n Q := by
  refine Rn_aload_n dX13_partOf_108 rfl rfl rfl ?_
  refine Rn_bipush dX13_partOf_109 rfl ?_
  refine Rn_bipush dX13_partOf_111 rfl ?_
  refine Rn_bipush dX13_partOf_113 rfl ?_
  exact Rn_callS (avs := [vI 101, vI 110, vI 100]) (st := [vR r0]) (bc1 := 0) (bs1 := 0) (bc2 := bc) (bs2 := bs) fx_X13_w3 dX13_partOf_115 (Or.inl wd_1523) wd_1524 rfl (Nat.le_of_ble_eq_true rfl) (Nat.le_of_ble_eq_true rfl) (by omega) (by omega) (ls1 := [some (vI 101), some (vI 110), some (vI 100)]) rfl k
theorem BX13_partOf_118 {d bc bs : Nat} {h : aH} {n : Nat} {Q : aQ} {r0 : Option Nat} {x1 s1 : Int} {aq0 : Nat} {f1 : List aV} (h2 : h aq0 = cO 13 f1) (k : Rn d 0 0 mX13_isWord 0 [some (vR (some aq0)), some (vL s1), none] [] h n (fun v h1 n1 => Rn (d + 1) bc bs mX13_partOf 121 [some (vR r0), some (vI x1)] (v.toList ++ []) h1 n1 Q)) : Rn (d + 1) (bc) (bs) mX13_partOf 118 [some (vR r0), some (vI x1)] [vL s1, vR (some aq0)] h n Q := by
  exact Rn_callV (ci := 13) (avs := [vL s1]) (st := []) (bc1 := 0) (bs1 := 0) (bc2 := bc) (bs2 := bs) fx_X13_isWord dX13_partOf_118 wd_1529 wd_1531 wd_51 rfl h2 rfl (Nat.le_of_ble_eq_true rfl) (Nat.le_of_ble_eq_true rfl) (by omega) (by omega) (ls1 := [some (vR (some aq0)), some (vL s1), none]) rfl k
theorem BX13_partOf_121 {d bc bs : Nat} {h : aH} {n : Nat} {Q : aQ} {r0 : Option Nat} {x1 s0 : Int} (kt : s0 = 0 → Rn d bc bs mX13_partOf 128 [some (vR r0), some (vI x1)] [] h n Q) (kf : s0 ≠ 0 → Rn d bc bs mX13_partOf 124 [some (vR r0), some (vI x1)] [] h n Q) : Rn d (bc) (bs) mX13_partOf 121 [some (vR r0), some (vI x1)] [vI s0] h n Q := by
  refine Rn_ifeq (tgt := 128) dX13_partOf_121 rfl ?_ ?_
  · exact kt
  · exact kf
theorem BX13_partOf_124 {d bc bs : Nat} {h : aH} {n : Nat} {Q : aQ} {r0 : Option Nat} {x1 : Int} (k : Q (some (vI 0)) h n) : Rn d (bc) (bs) mX13_partOf 124 [some (vR r0), some (vI x1)] [] h n Q := by
  refine Rn_iconst dX13_partOf_124 rfl ?_
  refine Rn_goto (tgt := 129) dX13_partOf_125 rfl ?_
  exact Rn_ireturn rfl dX13_partOf_129 k
theorem BX13_partOf_128 {d bc bs : Nat} {h : aH} {n : Nat} {Q : aQ} {r0 : Option Nat} {x1 : Int} (k : Q (some (vI (-1))) h n) : Rn d (bc) (bs) mX13_partOf 128 [some (vR r0), some (vI x1)] [] h n Q := by
  refine Rn_iconst dX13_partOf_128 rfl ?_
  exact Rn_ireturn rfl dX13_partOf_129 k
theorem BX13_partOf_130 {d bc bs : Nat} {h : aH} {n : Nat} {Q : aQ} {r0 : Option Nat} {x1 : Int} (k : Q (some (vI (-1))) h n) : Rn d (bc) (bs) mX13_partOf 130 [some (vR r0), some (vI x1)] [] h n Q := by
  refine Rn_iconst dX13_partOf_130 rfl ?_
  exact Rn_ireturn rfl dX13_partOf_131 k
theorem dX13_behindOne_0 : decode cX13_behindOne 0 = .ok (.aload_n 0, 1) := by decide +kernel
theorem dX13_behindOne_1 : decode cX13_behindOne 1 = .ok (.invokevirtual 207, 3) := by decide +kernel
theorem dX13_behindOne_4 : decode cX13_behindOne 4 = .ok (.istore_n 1, 1) := by decide +kernel
theorem dX13_behindOne_5 : decode cX13_behindOne 5 = .ok (.iload_n 1, 1) := by decide +kernel
theorem dX13_behindOne_6 : decode cX13_behindOne 6 = .ok (.ifCond .lt 54, 3) := by decide +kernel
theorem dX13_behindOne_9 : decode cX13_behindOne 9 = .ok (.aload_n 0, 1) := by decide +kernel
theorem dX13_behindOne_10 : decode cX13_behindOne 10 = .ok (.iload_n 1, 1) := by decide +kernel
theorem dX13_behindOne_11 : decode cX13_behindOne 11 = .ok (.invokestatic 151, 3) := by decide +kernel
theorem dX13_behindOne_14 : decode cX13_behindOne 14 = .ok (.iconst 4, 1) := by decide +kernel
theorem dX13_behindOne_15 : decode cX13_behindOne 15 = .ok (.if_icmp .ne 7, 3) := by decide +kernel
theorem dX13_behindOne_18 : decode cX13_behindOne 18 = .ok (.iconst 5, 1) := by decide +kernel
theorem dX13_behindOne_19 : decode cX13_behindOne 19 = .ok (.goto 7, 3) := by decide +kernel
theorem dX13_behindOne_22 : decode cX13_behindOne 22 = .ok (.iload_n 1, 1) := by decide +kernel
theorem dX13_behindOne_23 : decode cX13_behindOne 23 = .ok (.invokestatic 151, 3) := by decide +kernel
theorem dX13_behindOne_26 : decode cX13_behindOne 26 = .ok (.invokevirtual 195, 3) := by decide +kernel
theorem dX13_behindOne_29 : decode cX13_behindOne 29 = .ok (.aload_n 0, 1) := by decide +kernel
theorem dX13_behindOne_30 : decode cX13_behindOne 30 = .ok (.getfield 29, 3) := by decide +kernel
theorem dX13_behindOne_33 : decode cX13_behindOne 33 = .ok (.aload_n 0, 1) := by decide +kernel
theorem dX13_behindOne_34 : decode cX13_behindOne 34 = .ok (.getfield 148, 3) := by decide +kernel
theorem dX13_behindOne_37 : decode cX13_behindOne 37 = .ok (.iload_n 1, 1) := by decide +kernel
theorem dX13_behindOne_38 : decode cX13_behindOne 38 = .ok (.iastore, 1) := by decide +kernel
theorem dX13_behindOne_39 : decode cX13_behindOne 39 = .ok (.aload_n 0, 1) := by decide +kernel
theorem dX13_behindOne_40 : decode cX13_behindOne 40 = .ok (.dup, 1) := by decide +kernel
theorem dX13_behindOne_41 : decode cX13_behindOne 41 = .ok (.getfield 148, 3) := by decide +kernel
theorem dX13_behindOne_44 : decode cX13_behindOne 44 = .ok (.iconst 1, 1) := by decide +kernel
theorem dX13_behindOne_45 : decode cX13_behindOne 45 = .ok (.iadd, 1) := by decide +kernel
theorem dX13_behindOne_46 : decode cX13_behindOne 46 = .ok (.putfield 148, 3) := by decide +kernel
theorem dX13_behindOne_49 : decode cX13_behindOne 49 = .ok (.aload_n 0, 1) := by decide +kernel
theorem dX13_behindOne_50 : decode cX13_behindOne 50 = .ok (.iconst 0, 1) := by decide +kernel
theorem dX13_behindOne_51 : decode cX13_behindOne 51 = .ok (.putfield 198, 3) := by decide +kernel
theorem dX13_behindOne_54 : decode cX13_behindOne 54 = .ok (.aload_n 0, 1) := by decide +kernel
theorem dX13_behindOne_55 : decode cX13_behindOne 55 = .ok (.invokevirtual 168, 3) := by decide +kernel
theorem dX13_behindOne_58 : decode cX13_behindOne 58 = .ok (.iconst 0, 1) := by decide +kernel
theorem dX13_behindOne_59 : decode cX13_behindOne 59 = .ok (.ireturn, 1) := by decide +kernel
theorem dX13_behindOne_60 : decode cX13_behindOne 60 = .ok (.aload_n 0, 1) := by decide +kernel
theorem dX13_behindOne_61 : decode cX13_behindOne 61 = .ok (.invokevirtual 165, 3) := by decide +kernel
theorem dX13_behindOne_64 : decode cX13_behindOne 64 = .ok (.istore_n 2, 1) := by decide +kernel
theorem dX13_behindOne_65 : decode cX13_behindOne 65 = .ok (.aload_n 0, 1) := by decide +kernel
theorem dX13_behindOne_66 : decode cX13_behindOne 66 = .ok (.iload_n 2, 1) := by decide +kernel
theorem dX13_behindOne_67 : decode cX13_behindOne 67 = .ok (.invokevirtual 210, 3) := by decide +kernel
theorem dX13_behindOne_70 : decode cX13_behindOne 70 = .ok (.istore_n 3, 1) := by decide +kernel
theorem dX13_behindOne_71 : decode cX13_behindOne 71 = .ok (.iload_n 3, 1) := by decide +kernel
theorem dX13_behindOne_72 : decode cX13_behindOne 72 = .ok (.ifCond .ge 5, 3) := by decide +kernel
theorem dX13_behindOne_75 : decode cX13_behindOne 75 = .ok (.iconst (-1), 1) := by decide +kernel
theorem dX13_behindOne_76 : decode cX13_behindOne 76 = .ok (.ireturn, 1) := by decide +kernel
theorem dX13_behindOne_77 : decode cX13_behindOne 77 = .ok (.aload_n 0, 1) := by decide +kernel
theorem dX13_behindOne_78 : decode cX13_behindOne 78 = .ok (.iconst 1, 1) := by decide +kernel
theorem dX13_behindOne_79 : decode cX13_behindOne 79 = .ok (.invokevirtual 195, 3) := by decide +kernel
theorem dX13_behindOne_82 : decode cX13_behindOne 82 = .ok (.aload_n 0, 1) := by decide +kernel
theorem dX13_behindOne_83 : decode cX13_behindOne 83 = .ok (.invokevirtual 168, 3) := by decide +kernel
theorem dX13_behindOne_86 : decode cX13_behindOne 86 = .ok (.iload_n 3, 1) := by decide +kernel
theorem dX13_behindOne_87 : decode cX13_behindOne 87 = .ok (.ifCond .ne 40, 3) := by decide +kernel
theorem dX13_behindOne_90 : decode cX13_behindOne 90 = .ok (.aload_n 0, 1) := by decide +kernel
theorem dX13_behindOne_91 : decode cX13_behindOne 91 = .ok (.dup, 1) := by decide +kernel
theorem dX13_behindOne_92 : decode cX13_behindOne 92 = .ok (.getfield 158, 3) := by decide +kernel
theorem dX13_behindOne_95 : decode cX13_behindOne 95 = .ok (.iconst 1, 1) := by decide +kernel
theorem dX13_behindOne_96 : decode cX13_behindOne 96 = .ok (.isub, 1) := by decide +kernel
theorem dX13_behindOne_97 : decode cX13_behindOne 97 = .ok (.putfield 158, 3) := by decide +kernel
theorem dX13_behindOne_100 : decode cX13_behindOne 100 = .ok (.aload_n 0, 1) := by decide +kernel
theorem dX13_behindOne_101 : decode cX13_behindOne 101 = .ok (.dup, 1) := by decide +kernel
theorem dX13_behindOne_102 : decode cX13_behindOne 102 = .ok (.getfield 148, 3) := by decide +kernel
theorem dX13_behindOne_105 : decode cX13_behindOne 105 = .ok (.iconst 1, 1) := by decide +kernel
theorem dX13_behindOne_106 : decode cX13_behindOne 106 = .ok (.isub, 1) := by decide +kernel
theorem dX13_behindOne_107 : decode cX13_behindOne 107 = .ok (.putfield 148, 3) := by decide +kernel
theorem dX13_behindOne_110 : decode cX13_behindOne 110 = .ok (.iload_n 2, 1) := by decide +kernel
theorem dX13_behindOne_111 : decode cX13_behindOne 111 = .ok (.bipush 44, 2) := by decide +kernel
theorem dX13_behindOne_113 : decode cX13_behindOne 113 = .ok (.if_icmp .ne 9, 3) := by decide +kernel
theorem dX13_behindOne_116 : decode cX13_behindOne 116 = .ok (.aload_n 0, 1) := by decide +kernel
theorem dX13_behindOne_117 : decode cX13_behindOne 117 = .ok (.iconst 3, 1) := by decide +kernel
theorem dX13_behindOne_118 : decode cX13_behindOne 118 = .ok (.iconst 0, 1) := by decide +kernel
theorem dX13_behindOne_119 : decode cX13_behindOne 119 = .ok (.invokevirtual 154, 3) := by decide +kernel
theorem dX13_behindOne_122 : decode cX13_behindOne 122 = .ok (.aload_n 0, 1) := by decide +kernel
theorem dX13_behindOne_123 : decode cX13_behindOne 123 = .ok (.invokevirtual 177, 3) := by decide +kernel
theorem dX13_behindOne_126 : decode cX13_behindOne 126 = .ok (.ireturn, 1) := by decide +kernel
theorem dX13_behindOne_127 : decode cX13_behindOne 127 = .ok (.aload_n 0, 1) := by decide +kernel
theorem dX13_behindOne_128 : decode cX13_behindOne 128 = .ok (.getfield 29, 3) := by decide +kernel
theorem dX13_behindOne_131 : decode cX13_behindOne 131 = .ok (.aload_n 0, 1) := by decide +kernel
theorem dX13_behindOne_132 : decode cX13_behindOne 132 = .ok (.invokevirtual 161, 3) := by decide +kernel
theorem dX13_behindOne_135 : decode cX13_behindOne 135 = .ok (.iload_n 3, 1) := by decide +kernel
theorem dX13_behindOne_136 : decode cX13_behindOne 136 = .ok (.iastore, 1) := by decide +kernel
theorem dX13_behindOne_137 : decode cX13_behindOne 137 = .ok (.aload_n 0, 1) := by decide +kernel
theorem dX13_behindOne_138 : decode cX13_behindOne 138 = .ok (.iconst 0, 1) := by decide +kernel
theorem dX13_behindOne_139 : decode cX13_behindOne 139 = .ok (.putfield 198, 3) := by decide +kernel
theorem dX13_behindOne_142 : decode cX13_behindOne 142 = .ok (.iconst 0, 1) := by decide +kernel
theorem dX13_behindOne_143 : decode cX13_behindOne 143 = .ok (.ireturn, 1) := by decide +kernel
theorem BX13_behindOne_0 {d bc bs : Nat} {h : aH} {n : Nat} {Q : aQ} {ar0 : Nat} {l1 l2 l3 : Option aV} {f1 : List aV} (h2 : h ar0 = cO 13 f1) (k : Rn d 0 0 mX13_betweenOf 0 [some (vR (some ar0))] [] h n (fun v h1 n1 => Rn (d + 1) bc bs mX13_behindOne 4 [some (vR (some ar0)), l1, l2, l3] (v.toList ++ []) h1 n1 Q)) : Rn (d + 1) (bc) (bs) mX13_behindOne 0 [some (vR (some ar0)), l1, l2, l3] [] h n Q := by
  refine Rn_aload_n dX13_behindOne_0 rfl rfl rfl ?_
  exact Rn_callV (ci := 13) (avs := []) (st := []) (bc1 := 0) (bs1 := 0) (bc2 := bc) (bs2 := bs) fx_X13_betweenOf dX13_behindOne_1 wd_1571 wd_1573 wd_60 rfl h2 rfl (Nat.le_of_ble_eq_true rfl) (Nat.le_of_ble_eq_true rfl) (by omega) (by omega) (ls1 := [some (vR (some ar0))]) rfl k
theorem BX13_behindOne_4 {d bc bs : Nat} {h : aH} {n : Nat} {Q : aQ} {r0 : Option Nat} {l1 l2 l3 : Option aV} {s0 : Int} (kt : s0 < 0 → Rn d bc bs mX13_behindOne 60 [some (vR r0), some (vI s0), l2, l3] [] h n Q) (kf : 0 ≤ s0 → Rn d bc bs mX13_behindOne 9 [some (vR r0), some (vI s0), l2, l3] [] h n Q) : Rn d (bc) (bs) mX13_behindOne 4 [some (vR r0), l1, l2, l3] [vI s0] h n Q := by
  refine Rn_istore_n dX13_behindOne_4 rfl (Nat.le_of_ble_eq_true rfl) rfl rfl ?_
  refine Rn_iload_n dX13_behindOne_5 rfl rfl ?_
  refine Rn_iflt (tgt := 60) dX13_behindOne_6 rfl ?_ ?_
  · exact kt
  · exact kf
theorem BX13_behindOne_9 {d bc bs : Nat} {h : aH} {n : Nat} {Q : aQ} {r0 : Option Nat} {x1 : Int} {l2 l3 : Option aV} (k : Rn d 0 0 mX13_rank 0 [some (vI x1)] [] h n (fun v h1 n1 => Rn (d + 1) bc bs mX13_behindOne 14 [some (vR r0), some (vI x1), l2, l3] (v.toList ++ [vR r0]) h1 n1 Q)) : Rn (d + 1) (bc) (bs) mX13_behindOne 9 [some (vR r0), some (vI x1), l2, l3] [] h n Q := by
  refine Rn_aload_n dX13_behindOne_9 rfl rfl rfl ?_
  refine Rn_iload_n dX13_behindOne_10 rfl rfl ?_
  exact Rn_callS (avs := [vI x1]) (st := [vR r0]) (bc1 := 0) (bs1 := 0) (bc2 := bc) (bs2 := bs) fx_X13_rank dX13_behindOne_11 (Or.inl wd_1587) wd_1588 rfl (Nat.le_of_ble_eq_true rfl) (Nat.le_of_ble_eq_true rfl) (by omega) (by omega) (ls1 := [some (vI x1)]) rfl k
theorem BX13_behindOne_14 {d bc bs : Nat} {h : aH} {n : Nat} {Q : aQ} {r0 q0 : Option Nat} {x1 s1 : Int} {l2 l3 : Option aV} (kt : s1 ≠ 4 → Rn d bc bs mX13_behindOne 22 [some (vR r0), some (vI x1), l2, l3] [vR q0] h n Q) (kf : s1 = 4 → Rn d bc bs mX13_behindOne 18 [some (vR r0), some (vI x1), l2, l3] [vR q0] h n Q) : Rn d (bc) (bs) mX13_behindOne 14 [some (vR r0), some (vI x1), l2, l3] [vI s1, vR q0] h n Q := by
  refine Rn_iconst dX13_behindOne_14 rfl ?_
  refine Rn_icmpne (tgt := 22) dX13_behindOne_15 rfl ?_ ?_
  · exact kt
  · exact kf
theorem BX13_behindOne_18 {d bc bs : Nat} {h : aH} {n : Nat} {Q : aQ} {r0 : Option Nat} {x1 : Int} {l2 l3 : Option aV} {aq0 : Nat} {f1 : List aV} (h2 : h aq0 = cO 13 f1) (k : Rn d 0 0 mX13_settle 0 [some (vR (some aq0)), some (vI 5)] [] h n (fun v h1 n1 => Rn (d + 1) bc bs mX13_behindOne 29 [some (vR r0), some (vI x1), l2, l3] (v.toList ++ []) h1 n1 Q)) : Rn (d + 1) (bc) (bs) mX13_behindOne 18 [some (vR r0), some (vI x1), l2, l3] [vR (some aq0)] h n Q := by
  refine Rn_iconst dX13_behindOne_18 rfl ?_
  refine Rn_goto (tgt := 26) dX13_behindOne_19 rfl ?_
  exact Rn_callV (ci := 13) (avs := [vI 5]) (st := []) (bc1 := 0) (bs1 := 0) (bc2 := bc) (bs2 := bs) fx_X13_settle dX13_behindOne_26 wd_1594 wd_1596 wd_65 rfl h2 rfl (Nat.le_of_ble_eq_true rfl) (Nat.le_of_ble_eq_true rfl) (by omega) (by omega) (ls1 := [some (vR (some aq0)), some (vI 5)]) rfl k
theorem BX13_behindOne_22 {d bc bs : Nat} {h : aH} {n : Nat} {Q : aQ} {r0 q0 : Option Nat} {x1 : Int} {l2 l3 : Option aV} (k : Rn d 0 0 mX13_rank 0 [some (vI x1)] [] h n (fun v h1 n1 => Rn (d + 1) bc bs mX13_behindOne 26 [some (vR r0), some (vI x1), l2, l3] (v.toList ++ [vR q0]) h1 n1 Q)) : Rn (d + 1) (bc) (bs) mX13_behindOne 22 [some (vR r0), some (vI x1), l2, l3] [vR q0] h n Q := by
  refine Rn_iload_n dX13_behindOne_22 rfl rfl ?_
  exact Rn_callS (avs := [vI x1]) (st := [vR q0]) (bc1 := 0) (bs1 := 0) (bc2 := bc) (bs2 := bs) fx_X13_rank dX13_behindOne_23 (Or.inl wd_1587) wd_1588 rfl (Nat.le_of_ble_eq_true rfl) (Nat.le_of_ble_eq_true rfl) (by omega) (by omega) (ls1 := [some (vI x1)]) rfl k
theorem BX13_behindOne_26 {d bc bs : Nat} {h : aH} {n : Nat} {Q : aQ} {r0 : Option Nat} {x1 s1 : Int} {l2 l3 : Option aV} {aq0 : Nat} {f1 : List aV} (h2 : h aq0 = cO 13 f1) (k : Rn d 0 0 mX13_settle 0 [some (vR (some aq0)), some (vI s1)] [] h n (fun v h1 n1 => Rn (d + 1) bc bs mX13_behindOne 29 [some (vR r0), some (vI x1), l2, l3] (v.toList ++ []) h1 n1 Q)) : Rn (d + 1) (bc) (bs) mX13_behindOne 26 [some (vR r0), some (vI x1), l2, l3] [vI s1, vR (some aq0)] h n Q := by
  exact Rn_callV (ci := 13) (avs := [vI s1]) (st := []) (bc1 := 0) (bs1 := 0) (bc2 := bc) (bs2 := bs) fx_X13_settle dX13_behindOne_26 wd_1594 wd_1596 wd_65 rfl h2 rfl (Nat.le_of_ble_eq_true rfl) (Nat.le_of_ble_eq_true rfl) (by omega) (by omega) (ls1 := [some (vR (some aq0)), some (vI s1)]) rfl k
theorem BX13_behindOne_29 {d bc bs : Nat} {h : aH} {n : Nat} {Q : aQ} {ar0 at3 : Nat} {x1 v5 : Int} {l2 l3 : Option aV} {f1 : List aV} {w7 : List Int} (h2 : h ar0 = cO 13 f1) (g4 : f1[15]? = some (vR (some at3))) (g6 : f1[16]? = some (vI v5)) (h8 : h at3 = cI w7) (i9 : 0 ≤ v5) (j10 : v5 < w7.length) (z11 : at3 ≠ 0) (k : Rn d bc bs mX13_behindOne 39 [some (vR (some ar0)), some (vI x1), l2, l3] [] (up h at3 (cI (w7.set (v5 : Int).toNat x1))) n Q) : Rn d (bc) (bs) mX13_behindOne 29 [some (vR (some ar0)), some (vI x1), l2, l3] [] h n Q := by
  refine Rn_aload_n dX13_behindOne_29 rfl rfl rfl ?_
  refine Rn_getfield (ci := 13) (k := 15) dX13_behindOne_30 rfl in_13 (Nat.le_of_ble_eq_true rfl) wd_1367 rfl h2 g4 ?_
  refine Rn_aload_n dX13_behindOne_33 rfl rfl rfl ?_
  refine Rn_getfield (ci := 13) (k := 16) dX13_behindOne_34 rfl in_13 (Nat.le_of_ble_eq_true rfl) wd_1368 rfl h2 g6 ?_
  refine Rn_iload_n dX13_behindOne_37 rfl rfl ?_
  refine Rn_iastore dX13_behindOne_38 z11 h8 i9 j10 ?_
  exact k
theorem BX13_behindOne_39 {d bc bs : Nat} {h : aH} {n : Nat} {Q : aQ} {ar0 : Nat} {x1 v3 : Int} {l2 l3 : Option aV} {f1 : List aV} (h2 : h ar0 = cO 13 f1) (g4 : f1[16]? = some (vI v3)) (b5 : -2147483648 ≤ v3 + 1 ∧ v3 + 1 < 2147483648) (m6 : 16 < f1.length) (k : Rn d bc bs mX13_behindOne 49 [some (vR (some ar0)), some (vI x1), l2, l3] [] (up h ar0 (cO 13 (f1.set 16 (vI (v3 + 1))))) n Q) : Rn d (bc) (bs) mX13_behindOne 39 [some (vR (some ar0)), some (vI x1), l2, l3] [] h n Q := by
  refine Rn_aload_n dX13_behindOne_39 rfl rfl rfl ?_
  refine Rn_dup dX13_behindOne_40 rfl ?_
  refine Rn_getfield (ci := 13) (k := 16) dX13_behindOne_41 rfl in_13 (Nat.le_of_ble_eq_true rfl) wd_1368 rfl h2 g4 ?_
  refine Rn_iconst dX13_behindOne_44 rfl ?_
  refine Rn_iadd dX13_behindOne_45 ?_
  rw [w32_id b5.1 b5.2]
  refine Rn_putfield (ci := 13) (k := 16) dX13_behindOne_46 rfl in_13 tyX13_ok nmX13 (Nat.le_of_ble_eq_true rfl) wd_1368 rfl (Or.inl rfl) trivial m6 h2 ?_
  exact k
theorem BX13_behindOne_49 {d bc bs : Nat} {h : aH} {n : Nat} {Q : aQ} {ar0 : Nat} {x1 : Int} {l2 l3 : Option aV} {f1 : List aV} (h2 : h ar0 = cO 13 f1) (m3 : 18 < f1.length) (k : Rn d bc bs mX13_behindOne 54 [some (vR (some ar0)), some (vI x1), l2, l3] [] (up h ar0 (cO 13 (f1.set 18 (vI 0)))) n Q) : Rn d (bc) (bs) mX13_behindOne 49 [some (vR (some ar0)), some (vI x1), l2, l3] [] h n Q := by
  refine Rn_aload_n dX13_behindOne_49 rfl rfl rfl ?_
  refine Rn_iconst dX13_behindOne_50 rfl ?_
  refine Rn_putfield (ci := 13) (k := 18) dX13_behindOne_51 rfl in_13 tyX13_ok nmX13 (Nat.le_of_ble_eq_true rfl) wd_1370 rfl (Or.inl rfl) (show (0 : Int) = 0 ∨ (0 : Int) = 1 by decide) m3 h2 ?_
  exact k
theorem BX13_behindOne_54 {d bc bs : Nat} {h : aH} {n : Nat} {Q : aQ} {ar0 : Nat} {x1 : Int} {l2 l3 : Option aV} {f1 : List aV} (h2 : h ar0 = cO 13 f1) (k : Rn d 0 0 mX13_nextToken 0 [some (vR (some ar0)), none] [] h n (fun v h1 n1 => Rn (d + 1) bc bs mX13_behindOne 58 [some (vR (some ar0)), some (vI x1), l2, l3] (v.toList ++ []) h1 n1 Q)) : Rn (d + 1) (bc) (bs) mX13_behindOne 54 [some (vR (some ar0)), some (vI x1), l2, l3] [] h n Q := by
  refine Rn_aload_n dX13_behindOne_54 rfl rfl rfl ?_
  exact Rn_callV (ci := 13) (avs := []) (st := []) (bc1 := 0) (bs1 := 0) (bc2 := bc) (bs2 := bs) fx_X13_nextToken dX13_behindOne_55 wd_1490 wd_1492 wd_47 rfl h2 rfl (Nat.le_of_ble_eq_true rfl) (Nat.le_of_ble_eq_true rfl) (by omega) (by omega) (ls1 := [some (vR (some ar0)), none]) rfl k
theorem BX13_behindOne_58 {d bc bs : Nat} {h : aH} {n : Nat} {Q : aQ} {r0 : Option Nat} {x1 : Int} {l2 l3 : Option aV} (k : Q (some (vI 0)) h n) : Rn d (bc) (bs) mX13_behindOne 58 [some (vR r0), some (vI x1), l2, l3] [] h n Q := by
  refine Rn_iconst dX13_behindOne_58 rfl ?_
  exact Rn_ireturn rfl dX13_behindOne_59 k
theorem BX13_behindOne_60 {d bc bs : Nat} {h : aH} {n : Nat} {Q : aQ} {ar0 : Nat} {x1 : Int} {l2 l3 : Option aV} {f1 : List aV} (h2 : h ar0 = cO 13 f1) (k : Rn d 0 0 mX13_openNow 0 [some (vR (some ar0))] [] h n (fun v h1 n1 => Rn (d + 1) bc bs mX13_behindOne 64 [some (vR (some ar0)), some (vI x1), l2, l3] (v.toList ++ []) h1 n1 Q)) : Rn (d + 1) (bc) (bs) mX13_behindOne 60 [some (vR (some ar0)), some (vI x1), l2, l3] [] h n Q := by
  refine Rn_aload_n dX13_behindOne_60 rfl rfl rfl ?_
  exact Rn_callV (ci := 13) (avs := []) (st := []) (bc1 := 0) (bs1 := 0) (bc2 := bc) (bs2 := bs) fx_X13_openNow dX13_behindOne_61 wd_1575 wd_1577 wd_61 rfl h2 rfl (Nat.le_of_ble_eq_true rfl) (Nat.le_of_ble_eq_true rfl) (by omega) (by omega) (ls1 := [some (vR (some ar0))]) rfl k
theorem BX13_behindOne_64 {d bc bs : Nat} {h : aH} {n : Nat} {Q : aQ} {ar0 : Nat} {x1 s0 : Int} {l2 l3 : Option aV} {f1 : List aV} (h2 : h ar0 = cO 13 f1) (k : Rn d 0 0 mX13_partOf 0 [some (vR (some ar0)), some (vI s0)] [] h n (fun v h1 n1 => Rn (d + 1) bc bs mX13_behindOne 70 [some (vR (some ar0)), some (vI x1), some (vI s0), l3] (v.toList ++ []) h1 n1 Q)) : Rn (d + 1) (bc) (bs) mX13_behindOne 64 [some (vR (some ar0)), some (vI x1), l2, l3] [vI s0] h n Q := by
  refine Rn_istore_n dX13_behindOne_64 rfl (Nat.le_of_ble_eq_true rfl) rfl rfl ?_
  refine Rn_aload_n dX13_behindOne_65 rfl rfl rfl ?_
  refine Rn_iload_n dX13_behindOne_66 rfl rfl ?_
  exact Rn_callV (ci := 13) (avs := [vI s0]) (st := []) (bc1 := 0) (bs1 := 0) (bc2 := bc) (bs2 := bs) fx_X13_partOf dX13_behindOne_67 wd_1602 wd_1604 wd_67 rfl h2 rfl (Nat.le_of_ble_eq_true rfl) (Nat.le_of_ble_eq_true rfl) (by omega) (by omega) (ls1 := [some (vR (some ar0)), some (vI s0)]) rfl k
theorem BX13_behindOne_70 {d bc bs : Nat} {h : aH} {n : Nat} {Q : aQ} {r0 : Option Nat} {x1 x2 s0 : Int} {l3 : Option aV} (kt : 0 ≤ s0 → Rn d bc bs mX13_behindOne 77 [some (vR r0), some (vI x1), some (vI x2), some (vI s0)] [] h n Q) (kf : s0 < 0 → Rn d bc bs mX13_behindOne 75 [some (vR r0), some (vI x1), some (vI x2), some (vI s0)] [] h n Q) : Rn d (bc) (bs) mX13_behindOne 70 [some (vR r0), some (vI x1), some (vI x2), l3] [vI s0] h n Q := by
  refine Rn_istore_n dX13_behindOne_70 rfl (Nat.le_of_ble_eq_true rfl) rfl rfl ?_
  refine Rn_iload_n dX13_behindOne_71 rfl rfl ?_
  refine Rn_ifge (tgt := 77) dX13_behindOne_72 rfl ?_ ?_
  · exact kt
  · exact kf
theorem BX13_behindOne_75 {d bc bs : Nat} {h : aH} {n : Nat} {Q : aQ} {r0 : Option Nat} {x1 x2 x3 : Int} (k : Q (some (vI (-1))) h n) : Rn d (bc) (bs) mX13_behindOne 75 [some (vR r0), some (vI x1), some (vI x2), some (vI x3)] [] h n Q := by
  refine Rn_iconst dX13_behindOne_75 rfl ?_
  exact Rn_ireturn rfl dX13_behindOne_76 k
theorem BX13_behindOne_77 {d bc bs : Nat} {h : aH} {n : Nat} {Q : aQ} {ar0 : Nat} {x1 x2 x3 : Int} {f1 : List aV} (h2 : h ar0 = cO 13 f1) (k : Rn d 0 0 mX13_settle 0 [some (vR (some ar0)), some (vI 1)] [] h n (fun v h1 n1 => Rn (d + 1) bc bs mX13_behindOne 82 [some (vR (some ar0)), some (vI x1), some (vI x2), some (vI x3)] (v.toList ++ []) h1 n1 Q)) : Rn (d + 1) (bc) (bs) mX13_behindOne 77 [some (vR (some ar0)), some (vI x1), some (vI x2), some (vI x3)] [] h n Q := by
  refine Rn_aload_n dX13_behindOne_77 rfl rfl rfl ?_
  refine Rn_iconst dX13_behindOne_78 rfl ?_
  exact Rn_callV (ci := 13) (avs := [vI 1]) (st := []) (bc1 := 0) (bs1 := 0) (bc2 := bc) (bs2 := bs) fx_X13_settle dX13_behindOne_79 wd_1594 wd_1596 wd_65 rfl h2 rfl (Nat.le_of_ble_eq_true rfl) (Nat.le_of_ble_eq_true rfl) (by omega) (by omega) (ls1 := [some (vR (some ar0)), some (vI 1)]) rfl k
theorem BX13_behindOne_82 {d bc bs : Nat} {h : aH} {n : Nat} {Q : aQ} {ar0 : Nat} {x1 x2 x3 : Int} {f1 : List aV} (h2 : h ar0 = cO 13 f1) (k : Rn d 0 0 mX13_nextToken 0 [some (vR (some ar0)), none] [] h n (fun v h1 n1 => Rn (d + 1) bc bs mX13_behindOne 86 [some (vR (some ar0)), some (vI x1), some (vI x2), some (vI x3)] (v.toList ++ []) h1 n1 Q)) : Rn (d + 1) (bc) (bs) mX13_behindOne 82 [some (vR (some ar0)), some (vI x1), some (vI x2), some (vI x3)] [] h n Q := by
  refine Rn_aload_n dX13_behindOne_82 rfl rfl rfl ?_
  exact Rn_callV (ci := 13) (avs := []) (st := []) (bc1 := 0) (bs1 := 0) (bc2 := bc) (bs2 := bs) fx_X13_nextToken dX13_behindOne_83 wd_1490 wd_1492 wd_47 rfl h2 rfl (Nat.le_of_ble_eq_true rfl) (Nat.le_of_ble_eq_true rfl) (by omega) (by omega) (ls1 := [some (vR (some ar0)), none]) rfl k
theorem BX13_behindOne_86 {d bc bs : Nat} {h : aH} {n : Nat} {Q : aQ} {r0 : Option Nat} {x1 x2 x3 : Int} (kt : x3 ≠ 0 → Rn d bc bs mX13_behindOne 127 [some (vR r0), some (vI x1), some (vI x2), some (vI x3)] [] h n Q) (kf : x3 = 0 → Rn d bc bs mX13_behindOne 90 [some (vR r0), some (vI x1), some (vI x2), some (vI x3)] [] h n Q) : Rn d (bc) (bs) mX13_behindOne 86 [some (vR r0), some (vI x1), some (vI x2), some (vI x3)] [] h n Q := by
  refine Rn_iload_n dX13_behindOne_86 rfl rfl ?_
  refine Rn_ifne (tgt := 127) dX13_behindOne_87 rfl ?_ ?_
  · exact kt
  · exact kf
theorem BX13_behindOne_90 {d bc bs : Nat} {h : aH} {n : Nat} {Q : aQ} {ar0 : Nat} {x1 x2 x3 v3 : Int} {f1 : List aV} (h2 : h ar0 = cO 13 f1) (g4 : f1[17]? = some (vI v3)) (b5 : -2147483648 ≤ v3 - 1 ∧ v3 - 1 < 2147483648) (m6 : 17 < f1.length) (k : Rn d bc bs mX13_behindOne 100 [some (vR (some ar0)), some (vI x1), some (vI x2), some (vI x3)] [] (up h ar0 (cO 13 (f1.set 17 (vI (v3 - 1))))) n Q) : Rn d (bc) (bs) mX13_behindOne 90 [some (vR (some ar0)), some (vI x1), some (vI x2), some (vI x3)] [] h n Q := by
  refine Rn_aload_n dX13_behindOne_90 rfl rfl rfl ?_
  refine Rn_dup dX13_behindOne_91 rfl ?_
  refine Rn_getfield (ci := 13) (k := 17) dX13_behindOne_92 rfl in_13 (Nat.le_of_ble_eq_true rfl) wd_1369 rfl h2 g4 ?_
  refine Rn_iconst dX13_behindOne_95 rfl ?_
  refine Rn_isub dX13_behindOne_96 ?_
  rw [w32_id b5.1 b5.2]
  refine Rn_putfield (ci := 13) (k := 17) dX13_behindOne_97 rfl in_13 tyX13_ok nmX13 (Nat.le_of_ble_eq_true rfl) wd_1369 rfl (Or.inl rfl) trivial m6 h2 ?_
  exact k
theorem BX13_behindOne_100 {d bc bs : Nat} {h : aH} {n : Nat} {Q : aQ} {ar0 : Nat} {x1 x2 x3 v3 : Int} {f1 : List aV} (h2 : h ar0 = cO 13 f1) (g4 : f1[16]? = some (vI v3)) (b5 : -2147483648 ≤ v3 - 1 ∧ v3 - 1 < 2147483648) (m6 : 16 < f1.length) (k : Rn d bc bs mX13_behindOne 110 [some (vR (some ar0)), some (vI x1), some (vI x2), some (vI x3)] [] (up h ar0 (cO 13 (f1.set 16 (vI (v3 - 1))))) n Q) : Rn d (bc) (bs) mX13_behindOne 100 [some (vR (some ar0)), some (vI x1), some (vI x2), some (vI x3)] [] h n Q := by
  refine Rn_aload_n dX13_behindOne_100 rfl rfl rfl ?_
  refine Rn_dup dX13_behindOne_101 rfl ?_
  refine Rn_getfield (ci := 13) (k := 16) dX13_behindOne_102 rfl in_13 (Nat.le_of_ble_eq_true rfl) wd_1368 rfl h2 g4 ?_
  refine Rn_iconst dX13_behindOne_105 rfl ?_
  refine Rn_isub dX13_behindOne_106 ?_
  rw [w32_id b5.1 b5.2]
  refine Rn_putfield (ci := 13) (k := 16) dX13_behindOne_107 rfl in_13 tyX13_ok nmX13 (Nat.le_of_ble_eq_true rfl) wd_1368 rfl (Or.inl rfl) trivial m6 h2 ?_
  exact k
theorem BX13_behindOne_110 {d bc bs : Nat} {h : aH} {n : Nat} {Q : aQ} {r0 : Option Nat} {x1 x2 x3 : Int} (kt : x2 ≠ 44 → Rn d bc bs mX13_behindOne 122 [some (vR r0), some (vI x1), some (vI x2), some (vI x3)] [] h n Q) (kf : x2 = 44 → Rn d bc bs mX13_behindOne 116 [some (vR r0), some (vI x1), some (vI x2), some (vI x3)] [] h n Q) : Rn d (bc) (bs) mX13_behindOne 110 [some (vR r0), some (vI x1), some (vI x2), some (vI x3)] [] h n Q := by
  refine Rn_iload_n dX13_behindOne_110 rfl rfl ?_
  refine Rn_bipush dX13_behindOne_111 rfl ?_
  refine Rn_icmpne (tgt := 122) dX13_behindOne_113 rfl ?_ ?_
  · exact kt
  · exact kf
theorem BX13_behindOne_116 {d bc bs : Nat} {h : aH} {n : Nat} {Q : aQ} {ar0 : Nat} {x1 x2 x3 : Int} {f1 : List aV} (h2 : h ar0 = cO 13 f1) (k : Rn d 0 0 mX13_emit 0 [some (vR (some ar0)), some (vI 3), some (vI 0)] [] h n (fun v h1 n1 => Rn (d + 1) bc bs mX13_behindOne 122 [some (vR (some ar0)), some (vI x1), some (vI x2), some (vI x3)] (v.toList ++ []) h1 n1 Q)) : Rn (d + 1) (bc) (bs) mX13_behindOne 116 [some (vR (some ar0)), some (vI x1), some (vI x2), some (vI x3)] [] h n Q := by
  refine Rn_aload_n dX13_behindOne_116 rfl rfl rfl ?_
  refine Rn_iconst dX13_behindOne_117 rfl ?_
  refine Rn_iconst dX13_behindOne_118 rfl ?_
  exact Rn_callV (ci := 13) (avs := [vI 3, vI 0]) (st := []) (bc1 := 0) (bs1 := 0) (bc2 := bc) (bs2 := bs) fx_X13_emit dX13_behindOne_119 wd_1598 wd_1600 wd_66 rfl h2 rfl (Nat.le_of_ble_eq_true rfl) (Nat.le_of_ble_eq_true rfl) (by omega) (by omega) (ls1 := [some (vR (some ar0)), some (vI 3), some (vI 0)]) rfl k
theorem BX13_behindOne_122 {d bc bs : Nat} {h : aH} {n : Nat} {Q : aQ} {ar0 : Nat} {x1 x2 x3 : Int} {f1 : List aV} (h2 : h ar0 = cO 13 f1) (k : Rn d 0 0 mX13_endOne 0 [some (vR (some ar0))] [] h n (fun v h1 n1 => Rn (d + 1) bc bs mX13_behindOne 126 [some (vR (some ar0)), some (vI x1), some (vI x2), some (vI x3)] (v.toList ++ []) h1 n1 Q)) : Rn (d + 1) (bc) (bs) mX13_behindOne 122 [some (vR (some ar0)), some (vI x1), some (vI x2), some (vI x3)] [] h n Q := by
  refine Rn_aload_n dX13_behindOne_122 rfl rfl rfl ?_
  exact Rn_callV (ci := 13) (avs := []) (st := []) (bc1 := 0) (bs1 := 0) (bc2 := bc) (bs2 := bs) fx_X13_endOne dX13_behindOne_123 wd_1606 wd_1608 wd_68 rfl h2 rfl (Nat.le_of_ble_eq_true rfl) (Nat.le_of_ble_eq_true rfl) (by omega) (by omega) (ls1 := [some (vR (some ar0))]) rfl k
theorem BX13_behindOne_126 {d bc bs : Nat} {h : aH} {n : Nat} {Q : aQ} {r0 : Option Nat} {x1 x2 x3 s0 : Int} (k : Q (some (vI s0)) h n) : Rn d (bc) (bs) mX13_behindOne 126 [some (vR r0), some (vI x1), some (vI x2), some (vI x3)] [vI s0] h n Q := by
  exact Rn_ireturn rfl dX13_behindOne_126 k
theorem BX13_behindOne_127 {d bc bs : Nat} {h : aH} {n : Nat} {Q : aQ} {ar0 : Nat} {x1 x2 x3 : Int} {f1 : List aV} {t3 : Option Nat} (h2 : h ar0 = cO 13 f1) (g4 : f1[15]? = some (vR t3)) (k : Rn d 0 0 mX13_openAt 0 [some (vR (some ar0)), none] [] h n (fun v h1 n1 => Rn (d + 1) bc bs mX13_behindOne 135 [some (vR (some ar0)), some (vI x1), some (vI x2), some (vI x3)] (v.toList ++ [vR t3]) h1 n1 Q)) : Rn (d + 1) (bc) (bs) mX13_behindOne 127 [some (vR (some ar0)), some (vI x1), some (vI x2), some (vI x3)] [] h n Q := by
  refine Rn_aload_n dX13_behindOne_127 rfl rfl rfl ?_
  refine Rn_getfield (ci := 13) (k := 15) dX13_behindOne_128 rfl in_13 (Nat.le_of_ble_eq_true rfl) wd_1367 rfl h2 g4 ?_
  refine Rn_aload_n dX13_behindOne_131 rfl rfl rfl ?_
  exact Rn_callV (ci := 13) (avs := []) (st := [vR t3]) (bc1 := 0) (bs1 := 0) (bc2 := bc) (bs2 := bs) fx_X13_openAt dX13_behindOne_132 wd_1579 wd_1581 wd_62 rfl h2 rfl (Nat.le_of_ble_eq_true rfl) (Nat.le_of_ble_eq_true rfl) (by omega) (by omega) (ls1 := [some (vR (some ar0)), none]) rfl k
theorem BX13_behindOne_135 {d bc bs : Nat} {h : aH} {n : Nat} {Q : aQ} {r0 : Option Nat} {x1 x2 x3 s1 : Int} {aq0 : Nat} {w1 : List Int} (h2 : h aq0 = cI w1) (i3 : 0 ≤ s1) (j4 : s1 < w1.length) (z5 : aq0 ≠ 0) (k : Rn d bc bs mX13_behindOne 137 [some (vR r0), some (vI x1), some (vI x2), some (vI x3)] [] (up h aq0 (cI (w1.set (s1 : Int).toNat x3))) n Q) : Rn d (bc) (bs) mX13_behindOne 135 [some (vR r0), some (vI x1), some (vI x2), some (vI x3)] [vI s1, vR (some aq0)] h n Q := by
  refine Rn_iload_n dX13_behindOne_135 rfl rfl ?_
  refine Rn_iastore dX13_behindOne_136 z5 h2 i3 j4 ?_
  exact k
theorem BX13_behindOne_137 {d bc bs : Nat} {h : aH} {n : Nat} {Q : aQ} {ar0 : Nat} {x1 x2 x3 : Int} {f1 : List aV} (h2 : h ar0 = cO 13 f1) (m3 : 18 < f1.length) (k : Rn d bc bs mX13_behindOne 142 [some (vR (some ar0)), some (vI x1), some (vI x2), some (vI x3)] [] (up h ar0 (cO 13 (f1.set 18 (vI 0)))) n Q) : Rn d (bc) (bs) mX13_behindOne 137 [some (vR (some ar0)), some (vI x1), some (vI x2), some (vI x3)] [] h n Q := by
  refine Rn_aload_n dX13_behindOne_137 rfl rfl rfl ?_
  refine Rn_iconst dX13_behindOne_138 rfl ?_
  refine Rn_putfield (ci := 13) (k := 18) dX13_behindOne_139 rfl in_13 tyX13_ok nmX13 (Nat.le_of_ble_eq_true rfl) wd_1370 rfl (Or.inl rfl) (show (0 : Int) = 0 ∨ (0 : Int) = 1 by decide) m3 h2 ?_
  exact k
theorem BX13_behindOne_142 {d bc bs : Nat} {h : aH} {n : Nat} {Q : aQ} {r0 : Option Nat} {x1 x2 x3 : Int} (k : Q (some (vI 0)) h n) : Rn d (bc) (bs) mX13_behindOne 142 [some (vR r0), some (vI x1), some (vI x2), some (vI x3)] [] h n Q := by
  refine Rn_iconst dX13_behindOne_142 rfl ?_
  exact Rn_ireturn rfl dX13_behindOne_143 k
theorem dX13_summed_0 : decode cX13_summed 0 = .ok (.aload_n 0, 1) := by decide +kernel
theorem dX13_summed_1 : decode cX13_summed 1 = .ok (.iconst 0, 1) := by decide +kernel
theorem dX13_summed_2 : decode cX13_summed 2 = .ok (.putfield 148, 3) := by decide +kernel
theorem dX13_summed_5 : decode cX13_summed 5 = .ok (.aload_n 0, 1) := by decide +kernel
theorem dX13_summed_6 : decode cX13_summed 6 = .ok (.iconst 0, 1) := by decide +kernel
theorem dX13_summed_7 : decode cX13_summed 7 = .ok (.putfield 158, 3) := by decide +kernel
theorem dX13_summed_10 : decode cX13_summed 10 = .ok (.aload_n 0, 1) := by decide +kernel
theorem dX13_summed_11 : decode cX13_summed 11 = .ok (.iconst 0, 1) := by decide +kernel
theorem dX13_summed_12 : decode cX13_summed 12 = .ok (.putfield 198, 3) := by decide +kernel
theorem dX13_summed_15 : decode cX13_summed 15 = .ok (.aload_n 0, 1) := by decide +kernel
theorem dX13_summed_16 : decode cX13_summed 16 = .ok (.getfield 198, 3) := by decide +kernel
theorem dX13_summed_19 : decode cX13_summed 19 = .ok (.ifCond .eq 10, 3) := by decide +kernel
theorem dX13_summed_22 : decode cX13_summed 22 = .ok (.aload_n 0, 1) := by decide +kernel
theorem dX13_summed_23 : decode cX13_summed 23 = .ok (.invokevirtual 213, 3) := by decide +kernel
theorem dX13_summed_26 : decode cX13_summed 26 = .ok (.goto 7, 3) := by decide +kernel
theorem dX13_summed_29 : decode cX13_summed 29 = .ok (.aload_n 0, 1) := by decide +kernel
theorem dX13_summed_30 : decode cX13_summed 30 = .ok (.invokevirtual 216, 3) := by decide +kernel
theorem dX13_summed_33 : decode cX13_summed 33 = .ok (.istore_n 1, 1) := by decide +kernel
theorem dX13_summed_34 : decode cX13_summed 34 = .ok (.iload_n 1, 1) := by decide +kernel
theorem dX13_summed_35 : decode cX13_summed 35 = .ok (.ifCond .le 5, 3) := by decide +kernel
theorem dX13_summed_38 : decode cX13_summed 38 = .ok (.iload_n 1, 1) := by decide +kernel
theorem dX13_summed_39 : decode cX13_summed 39 = .ok (.ireturn, 1) := by decide +kernel
theorem dX13_summed_40 : decode cX13_summed 40 = .ok (.iload_n 1, 1) := by decide +kernel
theorem dX13_summed_41 : decode cX13_summed 41 = .ok (.ifCond .ne 6, 3) := by decide +kernel
theorem dX13_summed_44 : decode cX13_summed 44 = .ok (.goto (-29), 3) := by decide +kernel
theorem dX13_summed_47 : decode cX13_summed 47 = .ok (.aload_n 0, 1) := by decide +kernel
theorem dX13_summed_48 : decode cX13_summed 48 = .ok (.invokevirtual 165, 3) := by decide +kernel
theorem dX13_summed_51 : decode cX13_summed 51 = .ok (.ifCond .lt 5, 3) := by decide +kernel
theorem dX13_summed_54 : decode cX13_summed 54 = .ok (.iconst 1, 1) := by decide +kernel
theorem dX13_summed_55 : decode cX13_summed 55 = .ok (.ireturn, 1) := by decide +kernel
theorem dX13_summed_56 : decode cX13_summed 56 = .ok (.aload_n 0, 1) := by decide +kernel
theorem dX13_summed_57 : decode cX13_summed 57 = .ok (.iconst 1, 1) := by decide +kernel
theorem dX13_summed_58 : decode cX13_summed 58 = .ok (.invokevirtual 195, 3) := by decide +kernel
theorem dX13_summed_61 : decode cX13_summed 61 = .ok (.iconst 0, 1) := by decide +kernel
theorem dX13_summed_62 : decode cX13_summed 62 = .ok (.ireturn, 1) := by decide +kernel
theorem BX13_summed_0 {d bc bs : Nat} {h : aH} {n : Nat} {Q : aQ} {ar0 : Nat} {l1 : Option aV} {f1 : List aV} (h2 : h ar0 = cO 13 f1) (m3 : 16 < f1.length) (k : Rn d bc bs mX13_summed 5 [some (vR (some ar0)), l1] [] (up h ar0 (cO 13 (f1.set 16 (vI 0)))) n Q) : Rn d (bc) (bs) mX13_summed 0 [some (vR (some ar0)), l1] [] h n Q := by
  refine Rn_aload_n dX13_summed_0 rfl rfl rfl ?_
  refine Rn_iconst dX13_summed_1 rfl ?_
  refine Rn_putfield (ci := 13) (k := 16) dX13_summed_2 rfl in_13 tyX13_ok nmX13 (Nat.le_of_ble_eq_true rfl) wd_1368 rfl (Or.inl rfl) trivial m3 h2 ?_
  exact k
theorem BX13_summed_5 {d bc bs : Nat} {h : aH} {n : Nat} {Q : aQ} {ar0 : Nat} {l1 : Option aV} {f1 : List aV} (h2 : h ar0 = cO 13 f1) (m3 : 17 < f1.length) (k : Rn d bc bs mX13_summed 10 [some (vR (some ar0)), l1] [] (up h ar0 (cO 13 (f1.set 17 (vI 0)))) n Q) : Rn d (bc) (bs) mX13_summed 5 [some (vR (some ar0)), l1] [] h n Q := by
  refine Rn_aload_n dX13_summed_5 rfl rfl rfl ?_
  refine Rn_iconst dX13_summed_6 rfl ?_
  refine Rn_putfield (ci := 13) (k := 17) dX13_summed_7 rfl in_13 tyX13_ok nmX13 (Nat.le_of_ble_eq_true rfl) wd_1369 rfl (Or.inl rfl) trivial m3 h2 ?_
  exact k
theorem BX13_summed_10 {d bc bs : Nat} {h : aH} {n : Nat} {Q : aQ} {ar0 : Nat} {l1 : Option aV} {f1 : List aV} (h2 : h ar0 = cO 13 f1) (m3 : 18 < f1.length) (k : Rn d bc bs mX13_summed 15 [some (vR (some ar0)), l1] [] (up h ar0 (cO 13 (f1.set 18 (vI 0)))) n Q) : Rn d (bc) (bs) mX13_summed 10 [some (vR (some ar0)), l1] [] h n Q := by
  refine Rn_aload_n dX13_summed_10 rfl rfl rfl ?_
  refine Rn_iconst dX13_summed_11 rfl ?_
  refine Rn_putfield (ci := 13) (k := 18) dX13_summed_12 rfl in_13 tyX13_ok nmX13 (Nat.le_of_ble_eq_true rfl) wd_1370 rfl (Or.inl rfl) (show (0 : Int) = 0 ∨ (0 : Int) = 1 by decide) m3 h2 ?_
  exact k
theorem BX13_summed_15 {d bc bs : Nat} {h : aH} {n : Nat} {Q : aQ} {ar0 : Nat} {l1 : Option aV} {f1 : List aV} {v3 : Int} (h2 : h ar0 = cO 13 f1) (g4 : f1[18]? = some (vI v3)) (kt : v3 = 0 → Rn d bc bs mX13_summed 29 [some (vR (some ar0)), l1] [] h n Q) (kf : v3 ≠ 0 → Rn d bc bs mX13_summed 22 [some (vR (some ar0)), l1] [] h n Q) : Rn d (bc) (bs) mX13_summed 15 [some (vR (some ar0)), l1] [] h n Q := by
  refine Rn_aload_n dX13_summed_15 rfl rfl rfl ?_
  refine Rn_getfield (ci := 13) (k := 18) dX13_summed_16 rfl in_13 (Nat.le_of_ble_eq_true rfl) wd_1370 rfl h2 g4 ?_
  refine Rn_ifeq (tgt := 29) dX13_summed_19 rfl ?_ ?_
  · exact kt
  · exact kf
theorem BX13_summed_22 {d bc bs : Nat} {h : aH} {n : Nat} {Q : aQ} {ar0 : Nat} {l1 : Option aV} {f1 : List aV} (h2 : h ar0 = cO 13 f1) (k : Rn d 0 0 mX13_behindOne 0 [some (vR (some ar0)), none, none, none] [] h n (fun v h1 n1 => Rn (d + 1) bc bs mX13_summed 26 [some (vR (some ar0)), l1] (v.toList ++ []) h1 n1 Q)) : Rn (d + 1) (bc) (bs) mX13_summed 22 [some (vR (some ar0)), l1] [] h n Q := by
  refine Rn_aload_n dX13_summed_22 rfl rfl rfl ?_
  exact Rn_callV (ci := 13) (avs := []) (st := []) (bc1 := 0) (bs1 := 0) (bc2 := bc) (bs2 := bs) fx_X13_behindOne dX13_summed_23 wd_1567 wd_1569 wd_59 rfl h2 rfl (Nat.le_of_ble_eq_true rfl) (Nat.le_of_ble_eq_true rfl) (by omega) (by omega) (ls1 := [some (vR (some ar0)), none, none, none]) rfl k
theorem BX13_summed_26 {d bc bs : Nat} {h : aH} {n : Nat} {Q : aQ} {r0 : Option Nat} {l1 : Option aV} {s0 : Int} (kt : s0 ≤ 0 → Rn d bc bs mX13_summed 40 [some (vR r0), some (vI s0)] [] h n Q) (kf : 0 < s0 → Rn d bc bs mX13_summed 38 [some (vR r0), some (vI s0)] [] h n Q) : Rn d (bc) (bs) mX13_summed 26 [some (vR r0), l1] [vI s0] h n Q := by
  refine Rn_goto (tgt := 33) dX13_summed_26 rfl ?_
  refine Rn_istore_n dX13_summed_33 rfl (Nat.le_of_ble_eq_true rfl) rfl rfl ?_
  refine Rn_iload_n dX13_summed_34 rfl rfl ?_
  refine Rn_ifle (tgt := 40) dX13_summed_35 rfl ?_ ?_
  · exact kt
  · exact kf
theorem BX13_summed_29 {d bc bs : Nat} {h : aH} {n : Nat} {Q : aQ} {ar0 : Nat} {l1 : Option aV} {f1 : List aV} (h2 : h ar0 = cO 13 f1) (k : Rn d 0 0 mX13_beginOne 0 [some (vR (some ar0)), none] [] h n (fun v h1 n1 => Rn (d + 1) bc bs mX13_summed 33 [some (vR (some ar0)), l1] (v.toList ++ []) h1 n1 Q)) : Rn (d + 1) (bc) (bs) mX13_summed 29 [some (vR (some ar0)), l1] [] h n Q := by
  refine Rn_aload_n dX13_summed_29 rfl rfl rfl ?_
  exact Rn_callV (ci := 13) (avs := []) (st := []) (bc1 := 0) (bs1 := 0) (bc2 := bc) (bs2 := bs) fx_X13_beginOne dX13_summed_30 wd_1610 wd_1612 wd_69 rfl h2 rfl (Nat.le_of_ble_eq_true rfl) (Nat.le_of_ble_eq_true rfl) (by omega) (by omega) (ls1 := [some (vR (some ar0)), none]) rfl k
theorem BX13_summed_33 {d bc bs : Nat} {h : aH} {n : Nat} {Q : aQ} {r0 : Option Nat} {l1 : Option aV} {s0 : Int} (kt : s0 ≤ 0 → Rn d bc bs mX13_summed 40 [some (vR r0), some (vI s0)] [] h n Q) (kf : 0 < s0 → Rn d bc bs mX13_summed 38 [some (vR r0), some (vI s0)] [] h n Q) : Rn d (bc) (bs) mX13_summed 33 [some (vR r0), l1] [vI s0] h n Q := by
  refine Rn_istore_n dX13_summed_33 rfl (Nat.le_of_ble_eq_true rfl) rfl rfl ?_
  refine Rn_iload_n dX13_summed_34 rfl rfl ?_
  refine Rn_ifle (tgt := 40) dX13_summed_35 rfl ?_ ?_
  · exact kt
  · exact kf
theorem BX13_summed_38 {d bc bs : Nat} {h : aH} {n : Nat} {Q : aQ} {r0 : Option Nat} {x1 : Int} (k : Q (some (vI x1)) h n) : Rn d (bc) (bs) mX13_summed 38 [some (vR r0), some (vI x1)] [] h n Q := by
  refine Rn_iload_n dX13_summed_38 rfl rfl ?_
  exact Rn_ireturn rfl dX13_summed_39 k
theorem BX13_summed_40 {d bc bs : Nat} {h : aH} {n : Nat} {Q : aQ} {r0 : Option Nat} {x1 : Int} (kt : x1 ≠ 0 → Rn d bc bs mX13_summed 47 [some (vR r0), some (vI x1)] [] h n Q) (kf : x1 = 0 → Rn d bc bs mX13_summed 44 [some (vR r0), some (vI x1)] [] h n Q) : Rn d (bc) (bs) mX13_summed 40 [some (vR r0), some (vI x1)] [] h n Q := by
  refine Rn_iload_n dX13_summed_40 rfl rfl ?_
  refine Rn_ifne (tgt := 47) dX13_summed_41 rfl ?_ ?_
  · exact kt
  · exact kf
theorem BX13_summed_44 {d bc bs : Nat} {h : aH} {n : Nat} {Q : aQ} {r0 : Option Nat} {x1 : Int} (k : Rn d bc bs mX13_summed 15 [some (vR r0), some (vI x1)] [] h n Q) : Rn d (bc) (bs) mX13_summed 44 [some (vR r0), some (vI x1)] [] h n Q := by
  refine Rn_goto (tgt := 15) dX13_summed_44 rfl ?_
  exact k
theorem BX13_summed_47 {d bc bs : Nat} {h : aH} {n : Nat} {Q : aQ} {ar0 : Nat} {x1 : Int} {f1 : List aV} (h2 : h ar0 = cO 13 f1) (k : Rn d 0 0 mX13_openNow 0 [some (vR (some ar0))] [] h n (fun v h1 n1 => Rn (d + 1) bc bs mX13_summed 51 [some (vR (some ar0)), some (vI x1)] (v.toList ++ []) h1 n1 Q)) : Rn (d + 1) (bc) (bs) mX13_summed 47 [some (vR (some ar0)), some (vI x1)] [] h n Q := by
  refine Rn_aload_n dX13_summed_47 rfl rfl rfl ?_
  exact Rn_callV (ci := 13) (avs := []) (st := []) (bc1 := 0) (bs1 := 0) (bc2 := bc) (bs2 := bs) fx_X13_openNow dX13_summed_48 wd_1575 wd_1577 wd_61 rfl h2 rfl (Nat.le_of_ble_eq_true rfl) (Nat.le_of_ble_eq_true rfl) (by omega) (by omega) (ls1 := [some (vR (some ar0))]) rfl k
theorem BX13_summed_51 {d bc bs : Nat} {h : aH} {n : Nat} {Q : aQ} {r0 : Option Nat} {x1 s0 : Int} (kt : s0 < 0 → Rn d bc bs mX13_summed 56 [some (vR r0), some (vI x1)] [] h n Q) (kf : 0 ≤ s0 → Rn d bc bs mX13_summed 54 [some (vR r0), some (vI x1)] [] h n Q) : Rn d (bc) (bs) mX13_summed 51 [some (vR r0), some (vI x1)] [vI s0] h n Q := by
  refine Rn_iflt (tgt := 56) dX13_summed_51 rfl ?_ ?_
  · exact kt
  · exact kf
theorem BX13_summed_54 {d bc bs : Nat} {h : aH} {n : Nat} {Q : aQ} {r0 : Option Nat} {x1 : Int} (k : Q (some (vI 1)) h n) : Rn d (bc) (bs) mX13_summed 54 [some (vR r0), some (vI x1)] [] h n Q := by
  refine Rn_iconst dX13_summed_54 rfl ?_
  exact Rn_ireturn rfl dX13_summed_55 k
theorem BX13_summed_56 {d bc bs : Nat} {h : aH} {n : Nat} {Q : aQ} {ar0 : Nat} {x1 : Int} {f1 : List aV} (h2 : h ar0 = cO 13 f1) (k : Rn d 0 0 mX13_settle 0 [some (vR (some ar0)), some (vI 1)] [] h n (fun v h1 n1 => Rn (d + 1) bc bs mX13_summed 61 [some (vR (some ar0)), some (vI x1)] (v.toList ++ []) h1 n1 Q)) : Rn (d + 1) (bc) (bs) mX13_summed 56 [some (vR (some ar0)), some (vI x1)] [] h n Q := by
  refine Rn_aload_n dX13_summed_56 rfl rfl rfl ?_
  refine Rn_iconst dX13_summed_57 rfl ?_
  exact Rn_callV (ci := 13) (avs := [vI 1]) (st := []) (bc1 := 0) (bs1 := 0) (bc2 := bc) (bs2 := bs) fx_X13_settle dX13_summed_58 wd_1594 wd_1596 wd_65 rfl h2 rfl (Nat.le_of_ble_eq_true rfl) (Nat.le_of_ble_eq_true rfl) (by omega) (by omega) (ls1 := [some (vR (some ar0)), some (vI 1)]) rfl k
theorem BX13_summed_61 {d bc bs : Nat} {h : aH} {n : Nat} {Q : aQ} {r0 : Option Nat} {x1 : Int} (k : Q (some (vI 0)) h n) : Rn d (bc) (bs) mX13_summed 61 [some (vR r0), some (vI x1)] [] h n Q := by
  refine Rn_iconst dX13_summed_61 rfl ?_
  exact Rn_ireturn rfl dX13_summed_62 k
theorem dX13_figure_0 : decode cX13_figure 0 = .ok (.aload_n 0, 1) := by decide +kernel
theorem dX13_figure_1 : decode cX13_figure 1 = .ok (.getfield 104, 3) := by decide +kernel
theorem dX13_figure_4 : decode cX13_figure 4 = .ok (.iconst 1, 1) := by decide +kernel
theorem dX13_figure_5 : decode cX13_figure 5 = .ok (.if_icmp .eq 5, 3) := by decide +kernel
theorem dX13_figure_8 : decode cX13_figure 8 = .ok (.iconst 1, 1) := by decide +kernel
theorem dX13_figure_9 : decode cX13_figure 9 = .ok (.ireturn, 1) := by decide +kernel
theorem dX13_figure_10 : decode cX13_figure 10 = .ok (.aload_n 0, 1) := by decide +kernel
theorem dX13_figure_11 : decode cX13_figure 11 = .ok (.getfield 110, 3) := by decide +kernel
theorem dX13_figure_14 : decode cX13_figure 14 = .ok (.iload_n 2, 1) := by decide +kernel
theorem dX13_figure_15 : decode cX13_figure 15 = .ok (.iload_n 3, 1) := by decide +kernel
theorem dX13_figure_16 : decode cX13_figure 16 = .ok (.invokestatic 72, 3) := by decide +kernel
theorem dX13_figure_19 : decode cX13_figure 19 = .ok (.ifCond .ne 5, 3) := by decide +kernel
theorem dX13_figure_22 : decode cX13_figure 22 = .ok (.iconst 2, 1) := by decide +kernel
theorem dX13_figure_23 : decode cX13_figure 23 = .ok (.ireturn, 1) := by decide +kernel
theorem dX13_figure_24 : decode cX13_figure 24 = .ok (.aload_n 0, 1) := by decide +kernel
theorem dX13_figure_25 : decode cX13_figure 25 = .ok (.getfield 16, 3) := by decide +kernel
theorem dX13_figure_28 : decode cX13_figure 28 = .ok (.iload_n 1, 1) := by decide +kernel
theorem dX13_figure_29 : decode cX13_figure 29 = .ok (.aload_n 0, 1) := by decide +kernel
theorem dX13_figure_30 : decode cX13_figure 30 = .ok (.getfield 110, 3) := by decide +kernel
theorem dX13_figure_33 : decode cX13_figure 33 = .ok (.iastore, 1) := by decide +kernel
theorem dX13_figure_34 : decode cX13_figure 34 = .ok (.aload_n 0, 1) := by decide +kernel
theorem dX13_figure_35 : decode cX13_figure 35 = .ok (.invokevirtual 168, 3) := by decide +kernel
theorem dX13_figure_38 : decode cX13_figure 38 = .ok (.iconst 0, 1) := by decide +kernel
theorem dX13_figure_39 : decode cX13_figure 39 = .ok (.ireturn, 1) := by decide +kernel
theorem BX13_figure_0 {d bc bs : Nat} {h : aH} {n : Nat} {Q : aQ} {ar0 : Nat} {x1 x2 x3 v3 : Int} {f1 : List aV} (h2 : h ar0 = cO 13 f1) (g4 : f1[9]? = some (vI v3)) (kt : v3 = 1 → Rn d bc bs mX13_figure 10 [some (vR (some ar0)), some (vI x1), some (vI x2), some (vI x3)] [] h n Q) (kf : v3 ≠ 1 → Rn d bc bs mX13_figure 8 [some (vR (some ar0)), some (vI x1), some (vI x2), some (vI x3)] [] h n Q) : Rn d (bc) (bs) mX13_figure 0 [some (vR (some ar0)), some (vI x1), some (vI x2), some (vI x3)] [] h n Q := by
  refine Rn_aload_n dX13_figure_0 rfl rfl rfl ?_
  refine Rn_getfield (ci := 13) (k := 9) dX13_figure_1 rfl in_13 (Nat.le_of_ble_eq_true rfl) wd_1361 rfl h2 g4 ?_
  refine Rn_iconst dX13_figure_4 rfl ?_
  refine Rn_icmpeq (tgt := 10) dX13_figure_5 rfl ?_ ?_
  · exact kt
  · exact kf
theorem BX13_figure_8 {d bc bs : Nat} {h : aH} {n : Nat} {Q : aQ} {r0 : Option Nat} {x1 x2 x3 : Int} (k : Q (some (vI 1)) h n) : Rn d (bc) (bs) mX13_figure 8 [some (vR r0), some (vI x1), some (vI x2), some (vI x3)] [] h n Q := by
  refine Rn_iconst dX13_figure_8 rfl ?_
  exact Rn_ireturn rfl dX13_figure_9 k
theorem BX13_figure_10 {d bc bs : Nat} {h : aH} {n : Nat} {Q : aQ} {ar0 : Nat} {x1 x2 x3 v3 : Int} {f1 : List aV} (h2 : h ar0 = cO 13 f1) (g4 : f1[10]? = some (vI v3)) (k : Rn d 0 0 mX13_isIn 0 [some (vI v3), some (vI x2), some (vI x3)] [] h n (fun v h1 n1 => Rn (d + 1) bc bs mX13_figure 19 [some (vR (some ar0)), some (vI x1), some (vI x2), some (vI x3)] (v.toList ++ []) h1 n1 Q)) : Rn (d + 1) (bc) (bs) mX13_figure 10 [some (vR (some ar0)), some (vI x1), some (vI x2), some (vI x3)] [] h n Q := by
  refine Rn_aload_n dX13_figure_10 rfl rfl rfl ?_
  refine Rn_getfield (ci := 13) (k := 10) dX13_figure_11 rfl in_13 (Nat.le_of_ble_eq_true rfl) wd_1362 rfl h2 g4 ?_
  refine Rn_iload_n dX13_figure_14 rfl rfl ?_
  refine Rn_iload_n dX13_figure_15 rfl rfl ?_
  exact Rn_callS (avs := [vI v3, vI x2, vI x3]) (st := []) (bc1 := 0) (bs1 := 0) (bc2 := bc) (bs2 := bs) fx_X13_isIn dX13_figure_16 (Or.inl wd_1463) wd_1464 rfl (Nat.le_of_ble_eq_true rfl) (Nat.le_of_ble_eq_true rfl) (by omega) (by omega) (ls1 := [some (vI v3), some (vI x2), some (vI x3)]) rfl k
theorem BX13_figure_19 {d bc bs : Nat} {h : aH} {n : Nat} {Q : aQ} {r0 : Option Nat} {x1 x2 x3 s0 : Int} (kt : s0 ≠ 0 → Rn d bc bs mX13_figure 24 [some (vR r0), some (vI x1), some (vI x2), some (vI x3)] [] h n Q) (kf : s0 = 0 → Rn d bc bs mX13_figure 22 [some (vR r0), some (vI x1), some (vI x2), some (vI x3)] [] h n Q) : Rn d (bc) (bs) mX13_figure 19 [some (vR r0), some (vI x1), some (vI x2), some (vI x3)] [vI s0] h n Q := by
  refine Rn_ifne (tgt := 24) dX13_figure_19 rfl ?_ ?_
  · exact kt
  · exact kf
theorem BX13_figure_22 {d bc bs : Nat} {h : aH} {n : Nat} {Q : aQ} {r0 : Option Nat} {x1 x2 x3 : Int} (k : Q (some (vI 2)) h n) : Rn d (bc) (bs) mX13_figure 22 [some (vR r0), some (vI x1), some (vI x2), some (vI x3)] [] h n Q := by
  refine Rn_iconst dX13_figure_22 rfl ?_
  exact Rn_ireturn rfl dX13_figure_23 k
theorem BX13_figure_24 {d bc bs : Nat} {h : aH} {n : Nat} {Q : aQ} {ar0 at3 : Nat} {x1 x2 x3 v5 : Int} {f1 : List aV} {w7 : List Int} (h2 : h ar0 = cO 13 f1) (g4 : f1[2]? = some (vR (some at3))) (g6 : f1[10]? = some (vI v5)) (h8 : h at3 = cI w7) (i9 : 0 ≤ x1) (j10 : x1 < w7.length) (z11 : at3 ≠ 0) (k : Rn d bc bs mX13_figure 34 [some (vR (some ar0)), some (vI x1), some (vI x2), some (vI x3)] [] (up h at3 (cI (w7.set (x1 : Int).toNat v5))) n Q) : Rn d (bc) (bs) mX13_figure 24 [some (vR (some ar0)), some (vI x1), some (vI x2), some (vI x3)] [] h n Q := by
  refine Rn_aload_n dX13_figure_24 rfl rfl rfl ?_
  refine Rn_getfield (ci := 13) (k := 2) dX13_figure_25 rfl in_13 (Nat.le_of_ble_eq_true rfl) wd_1354 rfl h2 g4 ?_
  refine Rn_iload_n dX13_figure_28 rfl rfl ?_
  refine Rn_aload_n dX13_figure_29 rfl rfl rfl ?_
  refine Rn_getfield (ci := 13) (k := 10) dX13_figure_30 rfl in_13 (Nat.le_of_ble_eq_true rfl) wd_1362 rfl h2 g6 ?_
  refine Rn_iastore dX13_figure_33 z11 h8 i9 j10 ?_
  exact k
theorem BX13_figure_34 {d bc bs : Nat} {h : aH} {n : Nat} {Q : aQ} {ar0 : Nat} {x1 x2 x3 : Int} {f1 : List aV} (h2 : h ar0 = cO 13 f1) (k : Rn d 0 0 mX13_nextToken 0 [some (vR (some ar0)), none] [] h n (fun v h1 n1 => Rn (d + 1) bc bs mX13_figure 38 [some (vR (some ar0)), some (vI x1), some (vI x2), some (vI x3)] (v.toList ++ []) h1 n1 Q)) : Rn (d + 1) (bc) (bs) mX13_figure 34 [some (vR (some ar0)), some (vI x1), some (vI x2), some (vI x3)] [] h n Q := by
  refine Rn_aload_n dX13_figure_34 rfl rfl rfl ?_
  exact Rn_callV (ci := 13) (avs := []) (st := []) (bc1 := 0) (bs1 := 0) (bc2 := bc) (bs2 := bs) fx_X13_nextToken dX13_figure_35 wd_1490 wd_1492 wd_47 rfl h2 rfl (Nat.le_of_ble_eq_true rfl) (Nat.le_of_ble_eq_true rfl) (by omega) (by omega) (ls1 := [some (vR (some ar0)), none]) rfl k
theorem BX13_figure_38 {d bc bs : Nat} {h : aH} {n : Nat} {Q : aQ} {r0 : Option Nat} {x1 x2 x3 : Int} (k : Q (some (vI 0)) h n) : Rn d (bc) (bs) mX13_figure 38 [some (vR r0), some (vI x1), some (vI x2), some (vI x3)] [] h n Q := by
  refine Rn_iconst dX13_figure_38 rfl ?_
  exact Rn_ireturn rfl dX13_figure_39 k
theorem dX13_worded_0 : decode cX13_worded 0 = .ok (.aload_n 0, 1) := by decide +kernel
theorem dX13_worded_1 : decode cX13_worded 1 = .ok (.lload_n 1, 1) := by decide +kernel
theorem dX13_worded_2 : decode cX13_worded 2 = .ok (.invokevirtual 183, 3) := by decide +kernel
theorem dX13_worded_5 : decode cX13_worded 5 = .ok (.ifCond .ne 5, 3) := by decide +kernel
theorem dX13_worded_8 : decode cX13_worded 8 = .ok (.iconst 1, 1) := by decide +kernel
theorem dX13_worded_9 : decode cX13_worded 9 = .ok (.ireturn, 1) := by decide +kernel
theorem dX13_worded_10 : decode cX13_worded 10 = .ok (.aload_n 0, 1) := by decide +kernel
theorem dX13_worded_11 : decode cX13_worded 11 = .ok (.invokevirtual 168, 3) := by decide +kernel
theorem dX13_worded_14 : decode cX13_worded 14 = .ok (.aload_n 0, 1) := by decide +kernel
theorem dX13_worded_15 : decode cX13_worded 15 = .ok (.iload_n 3, 1) := by decide +kernel
theorem dX13_worded_16 : decode cX13_worded 16 = .ok (.iload 4, 2) := by decide +kernel
theorem dX13_worded_18 : decode cX13_worded 18 = .ok (.iload 5, 2) := by decide +kernel
theorem dX13_worded_20 : decode cX13_worded 20 = .ok (.invokevirtual 219, 3) := by decide +kernel
theorem dX13_worded_23 : decode cX13_worded 23 = .ok (.ireturn, 1) := by decide +kernel
theorem BX13_worded_0 {d bc bs : Nat} {h : aH} {n : Nat} {Q : aQ} {ar0 : Nat} {x1 x3 x4 x5 : Int} {f1 : List aV} (h2 : h ar0 = cO 13 f1) (k : Rn d 0 0 mX13_isWord 0 [some (vR (some ar0)), some (vL x1), none] [] h n (fun v h1 n1 => Rn (d + 1) bc bs mX13_worded 5 [some (vR (some ar0)), some (vL x1), none, some (vI x3), some (vI x4), some (vI x5)] (v.toList ++ []) h1 n1 Q)) : Rn (d + 1) (bc) (bs) mX13_worded 0 [some (vR (some ar0)), some (vL x1), none, some (vI x3), some (vI x4), some (vI x5)] [] h n Q := by
  refine Rn_aload_n dX13_worded_0 rfl rfl rfl ?_
  refine Rn_lload_n dX13_worded_1 rfl rfl ?_
  exact Rn_callV (ci := 13) (avs := [vL x1]) (st := []) (bc1 := 0) (bs1 := 0) (bc2 := bc) (bs2 := bs) fx_X13_isWord dX13_worded_2 wd_1529 wd_1531 wd_51 rfl h2 rfl (Nat.le_of_ble_eq_true rfl) (Nat.le_of_ble_eq_true rfl) (by omega) (by omega) (ls1 := [some (vR (some ar0)), some (vL x1), none]) rfl k
theorem BX13_worded_5 {d bc bs : Nat} {h : aH} {n : Nat} {Q : aQ} {r0 : Option Nat} {x1 x3 x4 x5 s0 : Int} (kt : s0 ≠ 0 → Rn d bc bs mX13_worded 10 [some (vR r0), some (vL x1), none, some (vI x3), some (vI x4), some (vI x5)] [] h n Q) (kf : s0 = 0 → Rn d bc bs mX13_worded 8 [some (vR r0), some (vL x1), none, some (vI x3), some (vI x4), some (vI x5)] [] h n Q) : Rn d (bc) (bs) mX13_worded 5 [some (vR r0), some (vL x1), none, some (vI x3), some (vI x4), some (vI x5)] [vI s0] h n Q := by
  refine Rn_ifne (tgt := 10) dX13_worded_5 rfl ?_ ?_
  · exact kt
  · exact kf
theorem BX13_worded_8 {d bc bs : Nat} {h : aH} {n : Nat} {Q : aQ} {r0 : Option Nat} {x1 x3 x4 x5 : Int} (k : Q (some (vI 1)) h n) : Rn d (bc) (bs) mX13_worded 8 [some (vR r0), some (vL x1), none, some (vI x3), some (vI x4), some (vI x5)] [] h n Q := by
  refine Rn_iconst dX13_worded_8 rfl ?_
  exact Rn_ireturn rfl dX13_worded_9 k
theorem BX13_worded_10 {d bc bs : Nat} {h : aH} {n : Nat} {Q : aQ} {ar0 : Nat} {x1 x3 x4 x5 : Int} {f1 : List aV} (h2 : h ar0 = cO 13 f1) (k : Rn d 0 0 mX13_nextToken 0 [some (vR (some ar0)), none] [] h n (fun v h1 n1 => Rn (d + 1) bc bs mX13_worded 14 [some (vR (some ar0)), some (vL x1), none, some (vI x3), some (vI x4), some (vI x5)] (v.toList ++ []) h1 n1 Q)) : Rn (d + 1) (bc) (bs) mX13_worded 10 [some (vR (some ar0)), some (vL x1), none, some (vI x3), some (vI x4), some (vI x5)] [] h n Q := by
  refine Rn_aload_n dX13_worded_10 rfl rfl rfl ?_
  exact Rn_callV (ci := 13) (avs := []) (st := []) (bc1 := 0) (bs1 := 0) (bc2 := bc) (bs2 := bs) fx_X13_nextToken dX13_worded_11 wd_1490 wd_1492 wd_47 rfl h2 rfl (Nat.le_of_ble_eq_true rfl) (Nat.le_of_ble_eq_true rfl) (by omega) (by omega) (ls1 := [some (vR (some ar0)), none]) rfl k
theorem BX13_worded_14 {d bc bs : Nat} {h : aH} {n : Nat} {Q : aQ} {ar0 : Nat} {x1 x3 x4 x5 : Int} {f1 : List aV} (h2 : h ar0 = cO 13 f1) (k : Rn d 0 0 mX13_figure 0 [some (vR (some ar0)), some (vI x3), some (vI x4), some (vI x5)] [] h n (fun v h1 n1 => Rn (d + 1) bc bs mX13_worded 23 [some (vR (some ar0)), some (vL x1), none, some (vI x3), some (vI x4), some (vI x5)] (v.toList ++ []) h1 n1 Q)) : Rn (d + 1) (bc) (bs) mX13_worded 14 [some (vR (some ar0)), some (vL x1), none, some (vI x3), some (vI x4), some (vI x5)] [] h n Q := by
  refine Rn_aload_n dX13_worded_14 rfl rfl rfl ?_
  refine Rn_iload_n dX13_worded_15 rfl rfl ?_
  refine Rn_iload dX13_worded_16 rfl ?_
  refine Rn_iload dX13_worded_18 rfl ?_
  exact Rn_callV (ci := 13) (avs := [vI x3, vI x4, vI x5]) (st := []) (bc1 := 0) (bs1 := 0) (bc2 := bc) (bs2 := bs) fx_X13_figure dX13_worded_20 wd_1551 wd_1553 wd_55 rfl h2 rfl (Nat.le_of_ble_eq_true rfl) (Nat.le_of_ble_eq_true rfl) (by omega) (by omega) (ls1 := [some (vR (some ar0)), some (vI x3), some (vI x4), some (vI x5)]) rfl k
theorem BX13_worded_23 {d bc bs : Nat} {h : aH} {n : Nat} {Q : aQ} {r0 : Option Nat} {x1 x3 x4 x5 s0 : Int} (k : Q (some (vI s0)) h n) : Rn d (bc) (bs) mX13_worded 23 [some (vR r0), some (vL x1), none, some (vI x3), some (vI x4), some (vI x5)] [vI s0] h n Q := by
  exact Rn_ireturn rfl dX13_worded_23 k
theorem dX13_lawClause_0 : decode cX13_lawClause 0 = .ok (.aload_n 0, 1) := by decide +kernel
theorem dX13_lawClause_1 : decode cX13_lawClause 1 = .ok (.getfield 16, 3) := by decide +kernel
theorem dX13_lawClause_4 : decode cX13_lawClause 4 = .ok (.iload_n 1, 1) := by decide +kernel
theorem dX13_lawClause_5 : decode cX13_lawClause 5 = .ok (.iconst 1, 1) := by decide +kernel
theorem dX13_lawClause_6 : decode cX13_lawClause 6 = .ok (.iadd, 1) := by decide +kernel
theorem dX13_lawClause_7 : decode cX13_lawClause 7 = .ok (.aload_n 0, 1) := by decide +kernel
theorem dX13_lawClause_8 : decode cX13_lawClause 8 = .ok (.getfield 145, 3) := by decide +kernel
theorem dX13_lawClause_11 : decode cX13_lawClause 11 = .ok (.iastore, 1) := by decide +kernel
theorem dX13_lawClause_12 : decode cX13_lawClause 12 = .ok (.aload_n 0, 1) := by decide +kernel
theorem dX13_lawClause_13 : decode cX13_lawClause 13 = .ok (.invokevirtual 223, 3) := by decide +kernel
theorem dX13_lawClause_16 : decode cX13_lawClause 16 = .ok (.istore_n 2, 1) := by decide +kernel
theorem dX13_lawClause_17 : decode cX13_lawClause 17 = .ok (.aload_n 0, 1) := by decide +kernel
theorem dX13_lawClause_18 : decode cX13_lawClause 18 = .ok (.getfield 16, 3) := by decide +kernel
theorem dX13_lawClause_21 : decode cX13_lawClause 21 = .ok (.iload_n 1, 1) := by decide +kernel
theorem dX13_lawClause_22 : decode cX13_lawClause 22 = .ok (.iconst 2, 1) := by decide +kernel
theorem dX13_lawClause_23 : decode cX13_lawClause 23 = .ok (.iadd, 1) := by decide +kernel
theorem dX13_lawClause_24 : decode cX13_lawClause 24 = .ok (.aload_n 0, 1) := by decide +kernel
theorem dX13_lawClause_25 : decode cX13_lawClause 25 = .ok (.getfield 145, 3) := by decide +kernel
theorem dX13_lawClause_28 : decode cX13_lawClause 28 = .ok (.iastore, 1) := by decide +kernel
theorem dX13_lawClause_29 : decode cX13_lawClause 29 = .ok (.iload_n 2, 1) := by decide +kernel
theorem dX13_lawClause_30 : decode cX13_lawClause 30 = .ok (.ireturn, 1) := by decide +kernel
theorem BX13_lawClause_0 {d bc bs : Nat} {h : aH} {n : Nat} {Q : aQ} {ar0 at3 : Nat} {x1 v6 : Int} {l2 : Option aV} {f1 : List aV} {w8 : List Int} (h2 : h ar0 = cO 13 f1) (g4 : f1[2]? = some (vR (some at3))) (b5 : -2147483648 ≤ x1 + 1 ∧ x1 + 1 < 2147483648) (g7 : f1[13]? = some (vI v6)) (h9 : h at3 = cI w8) (i10 : 0 ≤ x1 + 1) (j11 : x1 + 1 < w8.length) (z12 : at3 ≠ 0) (k : Rn d bc bs mX13_lawClause 12 [some (vR (some ar0)), some (vI x1), l2] [] (up h at3 (cI (w8.set (x1 + 1 : Int).toNat v6))) n Q) : Rn d (bc) (bs) mX13_lawClause 0 [some (vR (some ar0)), some (vI x1), l2] [] h n Q := by
  refine Rn_aload_n dX13_lawClause_0 rfl rfl rfl ?_
  refine Rn_getfield (ci := 13) (k := 2) dX13_lawClause_1 rfl in_13 (Nat.le_of_ble_eq_true rfl) wd_1354 rfl h2 g4 ?_
  refine Rn_iload_n dX13_lawClause_4 rfl rfl ?_
  refine Rn_iconst dX13_lawClause_5 rfl ?_
  refine Rn_iadd dX13_lawClause_6 ?_
  rw [w32_id b5.1 b5.2]
  refine Rn_aload_n dX13_lawClause_7 rfl rfl rfl ?_
  refine Rn_getfield (ci := 13) (k := 13) dX13_lawClause_8 rfl in_13 (Nat.le_of_ble_eq_true rfl) wd_1365 rfl h2 g7 ?_
  refine Rn_iastore dX13_lawClause_11 z12 h9 i10 j11 ?_
  exact k
theorem BX13_lawClause_12 {d bc bs : Nat} {h : aH} {n : Nat} {Q : aQ} {ar0 : Nat} {x1 : Int} {l2 : Option aV} {f1 : List aV} (h2 : h ar0 = cO 13 f1) (k : Rn d 0 0 mX13_summed 0 [some (vR (some ar0)), none] [] h n (fun v h1 n1 => Rn (d + 1) bc bs mX13_lawClause 16 [some (vR (some ar0)), some (vI x1), l2] (v.toList ++ []) h1 n1 Q)) : Rn (d + 1) (bc) (bs) mX13_lawClause 12 [some (vR (some ar0)), some (vI x1), l2] [] h n Q := by
  refine Rn_aload_n dX13_lawClause_12 rfl rfl rfl ?_
  exact Rn_callV (ci := 13) (avs := []) (st := []) (bc1 := 0) (bs1 := 0) (bc2 := bc) (bs2 := bs) fx_X13_summed dX13_lawClause_13 wd_1563 wd_1565 wd_58 rfl h2 rfl (Nat.le_of_ble_eq_true rfl) (Nat.le_of_ble_eq_true rfl) (by omega) (by omega) (ls1 := [some (vR (some ar0)), none]) rfl k
theorem BX13_lawClause_16 {d bc bs : Nat} {h : aH} {n : Nat} {Q : aQ} {ar0 at3 : Nat} {x1 s0 v6 : Int} {l2 : Option aV} {f1 : List aV} {w8 : List Int} (h2 : h ar0 = cO 13 f1) (g4 : f1[2]? = some (vR (some at3))) (b5 : -2147483648 ≤ x1 + 2 ∧ x1 + 2 < 2147483648) (g7 : f1[13]? = some (vI v6)) (h9 : h at3 = cI w8) (i10 : 0 ≤ x1 + 2) (j11 : x1 + 2 < w8.length) (z12 : at3 ≠ 0) (k : Rn d bc bs mX13_lawClause 29 [some (vR (some ar0)), some (vI x1), some (vI s0)] [] (up h at3 (cI (w8.set (x1 + 2 : Int).toNat v6))) n Q) : Rn d (bc) (bs) mX13_lawClause 16 [some (vR (some ar0)), some (vI x1), l2] [vI s0] h n Q := by
  refine Rn_istore_n dX13_lawClause_16 rfl (Nat.le_of_ble_eq_true rfl) rfl rfl ?_
  refine Rn_aload_n dX13_lawClause_17 rfl rfl rfl ?_
  refine Rn_getfield (ci := 13) (k := 2) dX13_lawClause_18 rfl in_13 (Nat.le_of_ble_eq_true rfl) wd_1354 rfl h2 g4 ?_
  refine Rn_iload_n dX13_lawClause_21 rfl rfl ?_
  refine Rn_iconst dX13_lawClause_22 rfl ?_
  refine Rn_iadd dX13_lawClause_23 ?_
  rw [w32_id b5.1 b5.2]
  refine Rn_aload_n dX13_lawClause_24 rfl rfl rfl ?_
  refine Rn_getfield (ci := 13) (k := 13) dX13_lawClause_25 rfl in_13 (Nat.le_of_ble_eq_true rfl) wd_1365 rfl h2 g7 ?_
  refine Rn_iastore dX13_lawClause_28 z12 h9 i10 j11 ?_
  exact k
theorem BX13_lawClause_29 {d bc bs : Nat} {h : aH} {n : Nat} {Q : aQ} {r0 : Option Nat} {x1 x2 : Int} (k : Q (some (vI x2)) h n) : Rn d (bc) (bs) mX13_lawClause 29 [some (vR r0), some (vI x1), some (vI x2)] [] h n Q := by
  refine Rn_iload_n dX13_lawClause_29 rfl rfl ?_
  exact Rn_ireturn rfl dX13_lawClause_30 k
theorem dX13_pair_0 : decode cX13_pair 0 = .ok (.aload_n 0, 1) := by decide +kernel
theorem dX13_pair_1 : decode cX13_pair 1 = .ok (.iload_n 1, 1) := by decide +kernel
theorem dX13_pair_2 : decode cX13_pair 2 = .ok (.iconst 1, 1) := by decide +kernel
theorem dX13_pair_3 : decode cX13_pair 3 = .ok (.iadd, 1) := by decide +kernel
theorem dX13_pair_4 : decode cX13_pair 4 = .ok (.iconst 0, 1) := by decide +kernel
theorem dX13_pair_5 : decode cX13_pair 5 = .ok (.iload_n 2, 1) := by decide +kernel
theorem dX13_pair_6 : decode cX13_pair 6 = .ok (.invokevirtual 219, 3) := by decide +kernel
theorem dX13_pair_9 : decode cX13_pair 9 = .ok (.istore 6, 2) := by decide +kernel
theorem dX13_pair_11 : decode cX13_pair 11 = .ok (.iload 6, 2) := by decide +kernel
theorem dX13_pair_13 : decode cX13_pair 13 = .ok (.ifCond .eq 8, 3) := by decide +kernel
theorem dX13_pair_16 : decode cX13_pair 16 = .ok (.iload 6, 2) := by decide +kernel
theorem dX13_pair_18 : decode cX13_pair 18 = .ok (.goto 14, 3) := by decide +kernel
theorem dX13_pair_21 : decode cX13_pair 21 = .ok (.aload_n 0, 1) := by decide +kernel
theorem dX13_pair_22 : decode cX13_pair 22 = .ok (.lload_n 3, 1) := by decide +kernel
theorem dX13_pair_23 : decode cX13_pair 23 = .ok (.iload_n 1, 1) := by decide +kernel
theorem dX13_pair_24 : decode cX13_pair 24 = .ok (.iconst 2, 1) := by decide +kernel
theorem dX13_pair_25 : decode cX13_pair 25 = .ok (.iadd, 1) := by decide +kernel
theorem dX13_pair_26 : decode cX13_pair 26 = .ok (.iconst 0, 1) := by decide +kernel
theorem dX13_pair_27 : decode cX13_pair 27 = .ok (.iload 5, 2) := by decide +kernel
theorem dX13_pair_29 : decode cX13_pair 29 = .ok (.invokevirtual 226, 3) := by decide +kernel
theorem dX13_pair_32 : decode cX13_pair 32 = .ok (.ireturn, 1) := by decide +kernel
theorem BX13_pair_0 {d bc bs : Nat} {h : aH} {n : Nat} {Q : aQ} {ar0 : Nat} {x1 x2 x3 x5 : Int} {l6 : Option aV} {f2 : List aV} (b1 : -2147483648 ≤ x1 + 1 ∧ x1 + 1 < 2147483648) (h3 : h ar0 = cO 13 f2) (k : Rn d 0 0 mX13_figure 0 [some (vR (some ar0)), some (vI (x1 + 1)), some (vI 0), some (vI x2)] [] h n (fun v h1 n1 => Rn (d + 1) bc bs mX13_pair 9 [some (vR (some ar0)), some (vI x1), some (vI x2), some (vL x3), none, some (vI x5), l6] (v.toList ++ []) h1 n1 Q)) : Rn (d + 1) (bc) (bs) mX13_pair 0 [some (vR (some ar0)), some (vI x1), some (vI x2), some (vL x3), none, some (vI x5), l6] [] h n Q := by
  refine Rn_aload_n dX13_pair_0 rfl rfl rfl ?_
  refine Rn_iload_n dX13_pair_1 rfl rfl ?_
  refine Rn_iconst dX13_pair_2 rfl ?_
  refine Rn_iadd dX13_pair_3 ?_
  rw [w32_id b1.1 b1.2]
  refine Rn_iconst dX13_pair_4 rfl ?_
  refine Rn_iload_n dX13_pair_5 rfl rfl ?_
  exact Rn_callV (ci := 13) (avs := [vI (x1 + 1), vI 0, vI x2]) (st := []) (bc1 := 0) (bs1 := 0) (bc2 := bc) (bs2 := bs) fx_X13_figure dX13_pair_6 wd_1551 wd_1553 wd_55 rfl h3 rfl (Nat.le_of_ble_eq_true rfl) (Nat.le_of_ble_eq_true rfl) (by omega) (by omega) (ls1 := [some (vR (some ar0)), some (vI (x1 + 1)), some (vI 0), some (vI x2)]) rfl k
theorem BX13_pair_9 {d bc bs : Nat} {h : aH} {n : Nat} {Q : aQ} {r0 : Option Nat} {x1 x2 x3 x5 s0 : Int} {l6 : Option aV} (kt : s0 = 0 → Rn d bc bs mX13_pair 21 [some (vR r0), some (vI x1), some (vI x2), some (vL x3), none, some (vI x5), some (vI s0)] [] h n Q) (kf : s0 ≠ 0 → Rn d bc bs mX13_pair 16 [some (vR r0), some (vI x1), some (vI x2), some (vL x3), none, some (vI x5), some (vI s0)] [] h n Q) : Rn d (bc) (bs) mX13_pair 9 [some (vR r0), some (vI x1), some (vI x2), some (vL x3), none, some (vI x5), l6] [vI s0] h n Q := by
  refine Rn_istore dX13_pair_9 (Nat.le_of_ble_eq_true rfl) rfl rfl ?_
  refine Rn_iload dX13_pair_11 rfl ?_
  refine Rn_ifeq (tgt := 21) dX13_pair_13 rfl ?_ ?_
  · exact kt
  · exact kf
theorem BX13_pair_16 {d bc bs : Nat} {h : aH} {n : Nat} {Q : aQ} {r0 : Option Nat} {x1 x2 x3 x5 x6 : Int} (k : Q (some (vI x6)) h n) : Rn d (bc) (bs) mX13_pair 16 [some (vR r0), some (vI x1), some (vI x2), some (vL x3), none, some (vI x5), some (vI x6)] [] h n Q := by
  refine Rn_iload dX13_pair_16 rfl ?_
  refine Rn_goto (tgt := 32) dX13_pair_18 rfl ?_
  exact Rn_ireturn rfl dX13_pair_32 k
theorem BX13_pair_21 {d bc bs : Nat} {h : aH} {n : Nat} {Q : aQ} {ar0 : Nat} {x1 x2 x3 x5 x6 : Int} {f2 : List aV} (b1 : -2147483648 ≤ x1 + 2 ∧ x1 + 2 < 2147483648) (h3 : h ar0 = cO 13 f2) (k : Rn d 0 0 mX13_worded 0 [some (vR (some ar0)), some (vL x3), none, some (vI (x1 + 2)), some (vI 0), some (vI x5)] [] h n (fun v h1 n1 => Rn (d + 1) bc bs mX13_pair 32 [some (vR (some ar0)), some (vI x1), some (vI x2), some (vL x3), none, some (vI x5), some (vI x6)] (v.toList ++ []) h1 n1 Q)) : Rn (d + 1) (bc) (bs) mX13_pair 21 [some (vR (some ar0)), some (vI x1), some (vI x2), some (vL x3), none, some (vI x5), some (vI x6)] [] h n Q := by
  refine Rn_aload_n dX13_pair_21 rfl rfl rfl ?_
  refine Rn_lload_n dX13_pair_22 rfl rfl ?_
  refine Rn_iload_n dX13_pair_23 rfl rfl ?_
  refine Rn_iconst dX13_pair_24 rfl ?_
  refine Rn_iadd dX13_pair_25 ?_
  rw [w32_id b1.1 b1.2]
  refine Rn_iconst dX13_pair_26 rfl ?_
  refine Rn_iload dX13_pair_27 rfl ?_
  exact Rn_callV (ci := 13) (avs := [vL x3, vI (x1 + 2), vI 0, vI x5]) (st := []) (bc1 := 0) (bs1 := 0) (bc2 := bc) (bs2 := bs) fx_X13_worded dX13_pair_29 wd_1555 wd_1557 wd_56 rfl h3 rfl (Nat.le_of_ble_eq_true rfl) (Nat.le_of_ble_eq_true rfl) (by omega) (by omega) (ls1 := [some (vR (some ar0)), some (vL x3), none, some (vI (x1 + 2)), some (vI 0), some (vI x5)]) rfl k
theorem BX13_pair_32 {d bc bs : Nat} {h : aH} {n : Nat} {Q : aQ} {r0 : Option Nat} {x1 x2 x3 x5 x6 s0 : Int} (k : Q (some (vI s0)) h n) : Rn d (bc) (bs) mX13_pair 32 [some (vR r0), some (vI x1), some (vI x2), some (vL x3), none, some (vI x5), some (vI x6)] [vI s0] h n Q := by
  exact Rn_ireturn rfl dX13_pair_32 k
theorem dX13_body_0 : decode cX13_body 0 = .ok (.iload_n 1, 1) := by decide +kernel
theorem dX13_body_1 : decode cX13_body 1 = .ok (.tableswitch 189 2 7 #[39, 60, 106, 151, 167, 178], 39) := by decide +kernel
theorem dX13_body_40 : decode cX13_body 40 = .ok (.aload_n 0, 1) := by decide +kernel
theorem dX13_body_41 : decode cX13_body 41 = .ok (.iload_n 2, 1) := by decide +kernel
theorem dX13_body_42 : decode cX13_body 42 = .ok (.bipush 9, 2) := by decide +kernel
theorem dX13_body_44 : decode cX13_body 44 = .ok (.bipush 108, 2) := by decide +kernel
theorem dX13_body_46 : decode cX13_body 46 = .ok (.bipush 117, 2) := by decide +kernel
theorem dX13_body_48 : decode cX13_body 48 = .ok (.bipush 99, 2) := by decide +kernel
theorem dX13_body_50 : decode cX13_body 50 = .ok (.bipush 107, 2) := by decide +kernel
theorem dX13_body_52 : decode cX13_body 52 = .ok (.invokestatic 134, 3) := by decide +kernel
theorem dX13_body_55 : decode cX13_body 55 = .ok (.bipush 9, 2) := by decide +kernel
theorem dX13_body_57 : decode cX13_body 57 = .ok (.invokevirtual 230, 3) := by decide +kernel
theorem dX13_body_60 : decode cX13_body 60 = .ok (.ireturn, 1) := by decide +kernel
theorem dX13_body_61 : decode cX13_body 61 = .ok (.aload_n 0, 1) := by decide +kernel
theorem dX13_body_62 : decode cX13_body 62 = .ok (.iload_n 2, 1) := by decide +kernel
theorem dX13_body_63 : decode cX13_body 63 = .ok (.iconst 2, 1) := by decide +kernel
theorem dX13_body_64 : decode cX13_body 64 = .ok (.bipush 102, 2) := by decide +kernel
theorem dX13_body_66 : decode cX13_body 66 = .ok (.bipush 114, 2) := by decide +kernel
theorem dX13_body_68 : decode cX13_body 68 = .ok (.bipush 111, 2) := by decide +kernel
theorem dX13_body_70 : decode cX13_body 70 = .ok (.bipush 109, 2) := by decide +kernel
theorem dX13_body_72 : decode cX13_body 72 = .ok (.invokestatic 134, 3) := by decide +kernel
theorem dX13_body_75 : decode cX13_body 75 = .ok (.bipush 9, 2) := by decide +kernel
theorem dX13_body_77 : decode cX13_body 77 = .ok (.invokevirtual 230, 3) := by decide +kernel
theorem dX13_body_80 : decode cX13_body 80 = .ok (.istore_n 3, 1) := by decide +kernel
theorem dX13_body_81 : decode cX13_body 81 = .ok (.iload_n 3, 1) := by decide +kernel
theorem dX13_body_82 : decode cX13_body 82 = .ok (.ifCond .eq 7, 3) := by decide +kernel
theorem dX13_body_85 : decode cX13_body 85 = .ok (.iload_n 3, 1) := by decide +kernel
theorem dX13_body_86 : decode cX13_body 86 = .ok (.goto 20, 3) := by decide +kernel
theorem dX13_body_89 : decode cX13_body 89 = .ok (.aload_n 0, 1) := by decide +kernel
theorem dX13_body_90 : decode cX13_body 90 = .ok (.bipush 116, 2) := by decide +kernel
theorem dX13_body_92 : decode cX13_body 92 = .ok (.bipush 111, 2) := by decide +kernel
theorem dX13_body_94 : decode cX13_body 94 = .ok (.invokestatic 126, 3) := by decide +kernel
theorem dX13_body_97 : decode cX13_body 97 = .ok (.iload_n 2, 1) := by decide +kernel
theorem dX13_body_98 : decode cX13_body 98 = .ok (.iconst 3, 1) := by decide +kernel
theorem dX13_body_99 : decode cX13_body 99 = .ok (.iadd, 1) := by decide +kernel
theorem dX13_body_100 : decode cX13_body 100 = .ok (.iconst 0, 1) := by decide +kernel
theorem dX13_body_101 : decode cX13_body 101 = .ok (.bipush 9, 2) := by decide +kernel
theorem dX13_body_103 : decode cX13_body 103 = .ok (.invokevirtual 226, 3) := by decide +kernel
theorem dX13_body_106 : decode cX13_body 106 = .ok (.ireturn, 1) := by decide +kernel
theorem dX13_body_107 : decode cX13_body 107 = .ok (.aload_n 0, 1) := by decide +kernel
theorem dX13_body_108 : decode cX13_body 108 = .ok (.iload_n 2, 1) := by decide +kernel
theorem dX13_body_109 : decode cX13_body 109 = .ok (.iconst 5, 1) := by decide +kernel
theorem dX13_body_110 : decode cX13_body 110 = .ok (.bipush 116, 2) := by decide +kernel
theorem dX13_body_112 : decode cX13_body 112 = .ok (.bipush 111, 2) := by decide +kernel
theorem dX13_body_114 : decode cX13_body 114 = .ok (.invokestatic 126, 3) := by decide +kernel
theorem dX13_body_117 : decode cX13_body 117 = .ok (.iconst 5, 1) := by decide +kernel
theorem dX13_body_118 : decode cX13_body 118 = .ok (.invokevirtual 230, 3) := by decide +kernel
theorem dX13_body_121 : decode cX13_body 121 = .ok (.istore_n 3, 1) := by decide +kernel
theorem dX13_body_122 : decode cX13_body 122 = .ok (.iload_n 3, 1) := by decide +kernel
theorem dX13_body_123 : decode cX13_body 123 = .ok (.ifCond .eq 7, 3) := by decide +kernel
theorem dX13_body_126 : decode cX13_body 126 = .ok (.iload_n 3, 1) := by decide +kernel
theorem dX13_body_127 : decode cX13_body 127 = .ok (.goto 24, 3) := by decide +kernel
theorem dX13_body_130 : decode cX13_body 130 = .ok (.aload_n 0, 1) := by decide +kernel
theorem dX13_body_131 : decode cX13_body 131 = .ok (.bipush 99, 2) := by decide +kernel
theorem dX13_body_133 : decode cX13_body 133 = .ok (.bipush 111, 2) := by decide +kernel
theorem dX13_body_135 : decode cX13_body 135 = .ok (.bipush 114, 2) := by decide +kernel
theorem dX13_body_137 : decode cX13_body 137 = .ok (.bipush 107, 2) := by decide +kernel
theorem dX13_body_139 : decode cX13_body 139 = .ok (.invokestatic 134, 3) := by decide +kernel
theorem dX13_body_142 : decode cX13_body 142 = .ok (.iload_n 2, 1) := by decide +kernel
theorem dX13_body_143 : decode cX13_body 143 = .ok (.iconst 3, 1) := by decide +kernel
theorem dX13_body_144 : decode cX13_body 144 = .ok (.iadd, 1) := by decide +kernel
theorem dX13_body_145 : decode cX13_body 145 = .ok (.iconst 1, 1) := by decide +kernel
theorem dX13_body_146 : decode cX13_body 146 = .ok (.bipush 99, 2) := by decide +kernel
theorem dX13_body_148 : decode cX13_body 148 = .ok (.invokevirtual 226, 3) := by decide +kernel
theorem dX13_body_151 : decode cX13_body 151 = .ok (.ireturn, 1) := by decide +kernel
theorem dX13_body_152 : decode cX13_body 152 = .ok (.aload_n 0, 1) := by decide +kernel
theorem dX13_body_153 : decode cX13_body 153 = .ok (.iload_n 2, 1) := by decide +kernel
theorem dX13_body_154 : decode cX13_body 154 = .ok (.bipush 11, 2) := by decide +kernel
theorem dX13_body_156 : decode cX13_body 156 = .ok (.bipush 98, 2) := by decide +kernel
theorem dX13_body_158 : decode cX13_body 158 = .ok (.bipush 121, 2) := by decide +kernel
theorem dX13_body_160 : decode cX13_body 160 = .ok (.invokestatic 126, 3) := by decide +kernel
theorem dX13_body_163 : decode cX13_body 163 = .ok (.iconst 5, 1) := by decide +kernel
theorem dX13_body_164 : decode cX13_body 164 = .ok (.invokevirtual 230, 3) := by decide +kernel
theorem dX13_body_167 : decode cX13_body 167 = .ok (.ireturn, 1) := by decide +kernel
theorem dX13_body_168 : decode cX13_body 168 = .ok (.aload_n 0, 1) := by decide +kernel
theorem dX13_body_169 : decode cX13_body 169 = .ok (.iload_n 2, 1) := by decide +kernel
theorem dX13_body_170 : decode cX13_body 170 = .ok (.iconst 1, 1) := by decide +kernel
theorem dX13_body_171 : decode cX13_body 171 = .ok (.iadd, 1) := by decide +kernel
theorem dX13_body_172 : decode cX13_body 172 = .ok (.iconst 0, 1) := by decide +kernel
theorem dX13_body_173 : decode cX13_body 173 = .ok (.bipush 11, 2) := by decide +kernel
theorem dX13_body_175 : decode cX13_body 175 = .ok (.invokevirtual 219, 3) := by decide +kernel
theorem dX13_body_178 : decode cX13_body 178 = .ok (.ireturn, 1) := by decide +kernel
theorem dX13_body_179 : decode cX13_body 179 = .ok (.aload_n 0, 1) := by decide +kernel
theorem dX13_body_180 : decode cX13_body 180 = .ok (.iload_n 2, 1) := by decide +kernel
theorem dX13_body_181 : decode cX13_body 181 = .ok (.iconst 1, 1) := by decide +kernel
theorem dX13_body_182 : decode cX13_body 182 = .ok (.iadd, 1) := by decide +kernel
theorem dX13_body_183 : decode cX13_body 183 = .ok (.iconst 1, 1) := by decide +kernel
theorem dX13_body_184 : decode cX13_body 184 = .ok (.bipush 60, 2) := by decide +kernel
theorem dX13_body_186 : decode cX13_body 186 = .ok (.invokevirtual 219, 3) := by decide +kernel
theorem dX13_body_189 : decode cX13_body 189 = .ok (.ireturn, 1) := by decide +kernel
theorem dX13_body_190 : decode cX13_body 190 = .ok (.aload_n 0, 1) := by decide +kernel
theorem dX13_body_191 : decode cX13_body 191 = .ok (.iload_n 2, 1) := by decide +kernel
theorem dX13_body_192 : decode cX13_body 192 = .ok (.invokevirtual 234, 3) := by decide +kernel
theorem dX13_body_195 : decode cX13_body 195 = .ok (.ireturn, 1) := by decide +kernel
theorem BX13_body_0 {d bc bs : Nat} {h : aH} {n : Nat} {Q : aQ} {r0 : Option Nat} {x1 x2 : Int} {l3 : Option aV} (kd : (x1 < 2 ∨ 7 < x1) → Rn d bc bs mX13_body 190 [some (vR r0), some (vI x1), some (vI x2), l3] [] h n Q) (k2 : x1 = 2 → Rn d bc bs mX13_body 40 [some (vR r0), some (vI x1), some (vI x2), l3] [] h n Q) (k3 : x1 = 3 → Rn d bc bs mX13_body 61 [some (vR r0), some (vI x1), some (vI x2), l3] [] h n Q) (k4 : x1 = 4 → Rn d bc bs mX13_body 107 [some (vR r0), some (vI x1), some (vI x2), l3] [] h n Q) (k5 : x1 = 5 → Rn d bc bs mX13_body 152 [some (vR r0), some (vI x1), some (vI x2), l3] [] h n Q) (k6 : x1 = 6 → Rn d bc bs mX13_body 168 [some (vR r0), some (vI x1), some (vI x2), l3] [] h n Q) (k7 : x1 = 7 → Rn d bc bs mX13_body 179 [some (vR r0), some (vI x1), some (vI x2), l3] [] h n Q) : Rn d (bc) (bs) mX13_body 0 [some (vR r0), some (vI x1), some (vI x2), l3] [] h n Q := by
  refine Rn_iload_n dX13_body_0 rfl rfl ?_
  by_cases hq : x1 < 2 ∨ 7 < x1
  · exact Rn_tableOut (tgt := 190) dX13_body_1 hq rfl (kd hq)
  rcases (show x1 = 2 ∨ x1 = 3 ∨ x1 = 4 ∨ x1 = 5 ∨ x1 = 6 ∨ x1 = 7 by omega) with hz | hz | hz | hz | hz | hz
  · exact Rn_tableIn (tgt := 40) dX13_body_1 (by omega) (by omega) (by rw [hz] <;> rfl) rfl (k2 hz)
  · exact Rn_tableIn (tgt := 61) dX13_body_1 (by omega) (by omega) (by rw [hz] <;> rfl) rfl (k3 hz)
  · exact Rn_tableIn (tgt := 107) dX13_body_1 (by omega) (by omega) (by rw [hz] <;> rfl) rfl (k4 hz)
  · exact Rn_tableIn (tgt := 152) dX13_body_1 (by omega) (by omega) (by rw [hz] <;> rfl) rfl (k5 hz)
  · exact Rn_tableIn (tgt := 168) dX13_body_1 (by omega) (by omega) (by rw [hz] <;> rfl) rfl (k6 hz)
  · exact Rn_tableIn (tgt := 179) dX13_body_1 (by omega) (by omega) (by rw [hz] <;> rfl) rfl (k7 hz)
theorem BX13_body_40 {d bc bs : Nat} {h : aH} {n : Nat} {Q : aQ} {r0 : Option Nat} {x1 x2 : Int} {l3 : Option aV} (k : Rn d 0 0 mX13_w4 0 [some (vI 108), some (vI 117), some (vI 99), some (vI 107)] [] h n (fun v h1 n1 => Rn (d + 1) bc bs mX13_body 55 [some (vR r0), some (vI x1), some (vI x2), l3] (v.toList ++ [vI 9, vI x2, vR r0]) h1 n1 Q)) : Rn (d + 1) (bc) (bs) mX13_body 40 [some (vR r0), some (vI x1), some (vI x2), l3] [] h n Q := by
  refine Rn_aload_n dX13_body_40 rfl rfl rfl ?_
  refine Rn_iload_n dX13_body_41 rfl rfl ?_
  refine Rn_bipush dX13_body_42 rfl ?_
  refine Rn_bipush dX13_body_44 rfl ?_
  refine Rn_bipush dX13_body_46 rfl ?_
  refine Rn_bipush dX13_body_48 rfl ?_
  refine Rn_bipush dX13_body_50 rfl ?_
  exact Rn_callS (avs := [vI 108, vI 117, vI 99, vI 107]) (st := [vI 9, vI x2, vR r0]) (bc1 := 0) (bs1 := 0) (bc2 := bc) (bs2 := bs) fx_X13_w4 dX13_body_52 (Or.inl wd_1520) wd_1521 rfl (Nat.le_of_ble_eq_true rfl) (Nat.le_of_ble_eq_true rfl) (by omega) (by omega) (ls1 := [some (vI 108), some (vI 117), some (vI 99), some (vI 107)]) rfl k
theorem BX13_body_55 {d bc bs : Nat} {h : aH} {n : Nat} {Q : aQ} {r0 : Option Nat} {x1 x2 s1 s2 s3 : Int} {l3 : Option aV} {aq0 : Nat} {f1 : List aV} (h2 : h aq0 = cO 13 f1) (k : Rn d 0 0 mX13_pair 0 [some (vR (some aq0)), some (vI s1), some (vI s2), some (vL s3), none, some (vI 9), none] [] h n (fun v h1 n1 => Rn (d + 1) bc bs mX13_body 60 [some (vR r0), some (vI x1), some (vI x2), l3] (v.toList ++ []) h1 n1 Q)) : Rn (d + 1) (bc) (bs) mX13_body 55 [some (vR r0), some (vI x1), some (vI x2), l3] [vL s3, vI s2, vI s1, vR (some aq0)] h n Q := by
  refine Rn_bipush dX13_body_55 rfl ?_
  exact Rn_callV (ci := 13) (avs := [vI s1, vI s2, vL s3, vI 9]) (st := []) (bc1 := 0) (bs1 := 0) (bc2 := bc) (bs2 := bs) fx_X13_pair dX13_body_57 wd_1547 wd_1549 wd_54 rfl h2 rfl (Nat.le_of_ble_eq_true rfl) (Nat.le_of_ble_eq_true rfl) (by omega) (by omega) (ls1 := [some (vR (some aq0)), some (vI s1), some (vI s2), some (vL s3), none, some (vI 9), none]) rfl k
theorem BX13_body_60 {d bc bs : Nat} {h : aH} {n : Nat} {Q : aQ} {r0 : Option Nat} {x1 x2 s0 : Int} {l3 : Option aV} (k : Q (some (vI s0)) h n) : Rn d (bc) (bs) mX13_body 60 [some (vR r0), some (vI x1), some (vI x2), l3] [vI s0] h n Q := by
  exact Rn_ireturn rfl dX13_body_60 k
theorem BX13_body_61 {d bc bs : Nat} {h : aH} {n : Nat} {Q : aQ} {r0 : Option Nat} {x1 x2 : Int} {l3 : Option aV} (k : Rn d 0 0 mX13_w4 0 [some (vI 102), some (vI 114), some (vI 111), some (vI 109)] [] h n (fun v h1 n1 => Rn (d + 1) bc bs mX13_body 75 [some (vR r0), some (vI x1), some (vI x2), l3] (v.toList ++ [vI 2, vI x2, vR r0]) h1 n1 Q)) : Rn (d + 1) (bc) (bs) mX13_body 61 [some (vR r0), some (vI x1), some (vI x2), l3] [] h n Q := by
  refine Rn_aload_n dX13_body_61 rfl rfl rfl ?_
  refine Rn_iload_n dX13_body_62 rfl rfl ?_
  refine Rn_iconst dX13_body_63 rfl ?_
  refine Rn_bipush dX13_body_64 rfl ?_
  refine Rn_bipush dX13_body_66 rfl ?_
  refine Rn_bipush dX13_body_68 rfl ?_
  refine Rn_bipush dX13_body_70 rfl ?_
  exact Rn_callS (avs := [vI 102, vI 114, vI 111, vI 109]) (st := [vI 2, vI x2, vR r0]) (bc1 := 0) (bs1 := 0) (bc2 := bc) (bs2 := bs) fx_X13_w4 dX13_body_72 (Or.inl wd_1520) wd_1521 rfl (Nat.le_of_ble_eq_true rfl) (Nat.le_of_ble_eq_true rfl) (by omega) (by omega) (ls1 := [some (vI 102), some (vI 114), some (vI 111), some (vI 109)]) rfl k
theorem BX13_body_75 {d bc bs : Nat} {h : aH} {n : Nat} {Q : aQ} {r0 : Option Nat} {x1 x2 s1 s2 s3 : Int} {l3 : Option aV} {aq0 : Nat} {f1 : List aV} (h2 : h aq0 = cO 13 f1) (k : Rn d 0 0 mX13_pair 0 [some (vR (some aq0)), some (vI s1), some (vI s2), some (vL s3), none, some (vI 9), none] [] h n (fun v h1 n1 => Rn (d + 1) bc bs mX13_body 80 [some (vR r0), some (vI x1), some (vI x2), l3] (v.toList ++ []) h1 n1 Q)) : Rn (d + 1) (bc) (bs) mX13_body 75 [some (vR r0), some (vI x1), some (vI x2), l3] [vL s3, vI s2, vI s1, vR (some aq0)] h n Q := by
  refine Rn_bipush dX13_body_75 rfl ?_
  exact Rn_callV (ci := 13) (avs := [vI s1, vI s2, vL s3, vI 9]) (st := []) (bc1 := 0) (bs1 := 0) (bc2 := bc) (bs2 := bs) fx_X13_pair dX13_body_77 wd_1547 wd_1549 wd_54 rfl h2 rfl (Nat.le_of_ble_eq_true rfl) (Nat.le_of_ble_eq_true rfl) (by omega) (by omega) (ls1 := [some (vR (some aq0)), some (vI s1), some (vI s2), some (vL s3), none, some (vI 9), none]) rfl k
theorem BX13_body_80 {d bc bs : Nat} {h : aH} {n : Nat} {Q : aQ} {r0 : Option Nat} {x1 x2 s0 : Int} {l3 : Option aV} (kt : s0 = 0 → Rn d bc bs mX13_body 89 [some (vR r0), some (vI x1), some (vI x2), some (vI s0)] [] h n Q) (kf : s0 ≠ 0 → Rn d bc bs mX13_body 85 [some (vR r0), some (vI x1), some (vI x2), some (vI s0)] [] h n Q) : Rn d (bc) (bs) mX13_body 80 [some (vR r0), some (vI x1), some (vI x2), l3] [vI s0] h n Q := by
  refine Rn_istore_n dX13_body_80 rfl (Nat.le_of_ble_eq_true rfl) rfl rfl ?_
  refine Rn_iload_n dX13_body_81 rfl rfl ?_
  refine Rn_ifeq (tgt := 89) dX13_body_82 rfl ?_ ?_
  · exact kt
  · exact kf
theorem BX13_body_85 {d bc bs : Nat} {h : aH} {n : Nat} {Q : aQ} {r0 : Option Nat} {x1 x2 x3 : Int} (k : Q (some (vI x3)) h n) : Rn d (bc) (bs) mX13_body 85 [some (vR r0), some (vI x1), some (vI x2), some (vI x3)] [] h n Q := by
  refine Rn_iload_n dX13_body_85 rfl rfl ?_
  refine Rn_goto (tgt := 106) dX13_body_86 rfl ?_
  exact Rn_ireturn rfl dX13_body_106 k
theorem BX13_body_89 {d bc bs : Nat} {h : aH} {n : Nat} {Q : aQ} {r0 : Option Nat} {x1 x2 x3 : Int} (k : Rn d 0 0 mX13_w2 0 [some (vI 116), some (vI 111)] [] h n (fun v h1 n1 => Rn (d + 1) bc bs mX13_body 97 [some (vR r0), some (vI x1), some (vI x2), some (vI x3)] (v.toList ++ [vR r0]) h1 n1 Q)) : Rn (d + 1) (bc) (bs) mX13_body 89 [some (vR r0), some (vI x1), some (vI x2), some (vI x3)] [] h n Q := by
  refine Rn_aload_n dX13_body_89 rfl rfl rfl ?_
  refine Rn_bipush dX13_body_90 rfl ?_
  refine Rn_bipush dX13_body_92 rfl ?_
  exact Rn_callS (avs := [vI 116, vI 111]) (st := [vR r0]) (bc1 := 0) (bs1 := 0) (bc2 := bc) (bs2 := bs) fx_X13_w2 dX13_body_94 (Or.inl wd_1526) wd_1527 rfl (Nat.le_of_ble_eq_true rfl) (Nat.le_of_ble_eq_true rfl) (by omega) (by omega) (ls1 := [some (vI 116), some (vI 111)]) rfl k
theorem BX13_body_97 {d bc bs : Nat} {h : aH} {n : Nat} {Q : aQ} {r0 : Option Nat} {x1 x2 x3 s1 : Int} {aq0 : Nat} {f2 : List aV} (b1 : -2147483648 ≤ x2 + 3 ∧ x2 + 3 < 2147483648) (h3 : h aq0 = cO 13 f2) (k : Rn d 0 0 mX13_worded 0 [some (vR (some aq0)), some (vL s1), none, some (vI (x2 + 3)), some (vI 0), some (vI 9)] [] h n (fun v h1 n1 => Rn (d + 1) bc bs mX13_body 106 [some (vR r0), some (vI x1), some (vI x2), some (vI x3)] (v.toList ++ []) h1 n1 Q)) : Rn (d + 1) (bc) (bs) mX13_body 97 [some (vR r0), some (vI x1), some (vI x2), some (vI x3)] [vL s1, vR (some aq0)] h n Q := by
  refine Rn_iload_n dX13_body_97 rfl rfl ?_
  refine Rn_iconst dX13_body_98 rfl ?_
  refine Rn_iadd dX13_body_99 ?_
  rw [w32_id b1.1 b1.2]
  refine Rn_iconst dX13_body_100 rfl ?_
  refine Rn_bipush dX13_body_101 rfl ?_
  exact Rn_callV (ci := 13) (avs := [vL s1, vI (x2 + 3), vI 0, vI 9]) (st := []) (bc1 := 0) (bs1 := 0) (bc2 := bc) (bs2 := bs) fx_X13_worded dX13_body_103 wd_1555 wd_1557 wd_56 rfl h3 rfl (Nat.le_of_ble_eq_true rfl) (Nat.le_of_ble_eq_true rfl) (by omega) (by omega) (ls1 := [some (vR (some aq0)), some (vL s1), none, some (vI (x2 + 3)), some (vI 0), some (vI 9)]) rfl k
theorem BX13_body_106 {d bc bs : Nat} {h : aH} {n : Nat} {Q : aQ} {r0 : Option Nat} {x1 x2 x3 s0 : Int} (k : Q (some (vI s0)) h n) : Rn d (bc) (bs) mX13_body 106 [some (vR r0), some (vI x1), some (vI x2), some (vI x3)] [vI s0] h n Q := by
  exact Rn_ireturn rfl dX13_body_106 k
theorem BX13_body_107 {d bc bs : Nat} {h : aH} {n : Nat} {Q : aQ} {r0 : Option Nat} {x1 x2 : Int} {l3 : Option aV} (k : Rn d 0 0 mX13_w2 0 [some (vI 116), some (vI 111)] [] h n (fun v h1 n1 => Rn (d + 1) bc bs mX13_body 117 [some (vR r0), some (vI x1), some (vI x2), l3] (v.toList ++ [vI 5, vI x2, vR r0]) h1 n1 Q)) : Rn (d + 1) (bc) (bs) mX13_body 107 [some (vR r0), some (vI x1), some (vI x2), l3] [] h n Q := by
  refine Rn_aload_n dX13_body_107 rfl rfl rfl ?_
  refine Rn_iload_n dX13_body_108 rfl rfl ?_
  refine Rn_iconst dX13_body_109 rfl ?_
  refine Rn_bipush dX13_body_110 rfl ?_
  refine Rn_bipush dX13_body_112 rfl ?_
  exact Rn_callS (avs := [vI 116, vI 111]) (st := [vI 5, vI x2, vR r0]) (bc1 := 0) (bs1 := 0) (bc2 := bc) (bs2 := bs) fx_X13_w2 dX13_body_114 (Or.inl wd_1526) wd_1527 rfl (Nat.le_of_ble_eq_true rfl) (Nat.le_of_ble_eq_true rfl) (by omega) (by omega) (ls1 := [some (vI 116), some (vI 111)]) rfl k
theorem BX13_body_117 {d bc bs : Nat} {h : aH} {n : Nat} {Q : aQ} {r0 : Option Nat} {x1 x2 s1 s2 s3 : Int} {l3 : Option aV} {aq0 : Nat} {f1 : List aV} (h2 : h aq0 = cO 13 f1) (k : Rn d 0 0 mX13_pair 0 [some (vR (some aq0)), some (vI s1), some (vI s2), some (vL s3), none, some (vI 5), none] [] h n (fun v h1 n1 => Rn (d + 1) bc bs mX13_body 121 [some (vR r0), some (vI x1), some (vI x2), l3] (v.toList ++ []) h1 n1 Q)) : Rn (d + 1) (bc) (bs) mX13_body 117 [some (vR r0), some (vI x1), some (vI x2), l3] [vL s3, vI s2, vI s1, vR (some aq0)] h n Q := by
  refine Rn_iconst dX13_body_117 rfl ?_
  exact Rn_callV (ci := 13) (avs := [vI s1, vI s2, vL s3, vI 5]) (st := []) (bc1 := 0) (bs1 := 0) (bc2 := bc) (bs2 := bs) fx_X13_pair dX13_body_118 wd_1547 wd_1549 wd_54 rfl h2 rfl (Nat.le_of_ble_eq_true rfl) (Nat.le_of_ble_eq_true rfl) (by omega) (by omega) (ls1 := [some (vR (some aq0)), some (vI s1), some (vI s2), some (vL s3), none, some (vI 5), none]) rfl k
theorem BX13_body_121 {d bc bs : Nat} {h : aH} {n : Nat} {Q : aQ} {r0 : Option Nat} {x1 x2 s0 : Int} {l3 : Option aV} (kt : s0 = 0 → Rn d bc bs mX13_body 130 [some (vR r0), some (vI x1), some (vI x2), some (vI s0)] [] h n Q) (kf : s0 ≠ 0 → Rn d bc bs mX13_body 126 [some (vR r0), some (vI x1), some (vI x2), some (vI s0)] [] h n Q) : Rn d (bc) (bs) mX13_body 121 [some (vR r0), some (vI x1), some (vI x2), l3] [vI s0] h n Q := by
  refine Rn_istore_n dX13_body_121 rfl (Nat.le_of_ble_eq_true rfl) rfl rfl ?_
  refine Rn_iload_n dX13_body_122 rfl rfl ?_
  refine Rn_ifeq (tgt := 130) dX13_body_123 rfl ?_ ?_
  · exact kt
  · exact kf
theorem BX13_body_126 {d bc bs : Nat} {h : aH} {n : Nat} {Q : aQ} {r0 : Option Nat} {x1 x2 x3 : Int} (k : Q (some (vI x3)) h n) : Rn d (bc) (bs) mX13_body 126 [some (vR r0), some (vI x1), some (vI x2), some (vI x3)] [] h n Q := by
  refine Rn_iload_n dX13_body_126 rfl rfl ?_
  refine Rn_goto (tgt := 151) dX13_body_127 rfl ?_
  exact Rn_ireturn rfl dX13_body_151 k
theorem BX13_body_130 {d bc bs : Nat} {h : aH} {n : Nat} {Q : aQ} {r0 : Option Nat} {x1 x2 x3 : Int} (k : Rn d 0 0 mX13_w4 0 [some (vI 99), some (vI 111), some (vI 114), some (vI 107)] [] h n (fun v h1 n1 => Rn (d + 1) bc bs mX13_body 142 [some (vR r0), some (vI x1), some (vI x2), some (vI x3)] (v.toList ++ [vR r0]) h1 n1 Q)) : Rn (d + 1) (bc) (bs) mX13_body 130 [some (vR r0), some (vI x1), some (vI x2), some (vI x3)] [] h n Q := by
  refine Rn_aload_n dX13_body_130 rfl rfl rfl ?_
  refine Rn_bipush dX13_body_131 rfl ?_
  refine Rn_bipush dX13_body_133 rfl ?_
  refine Rn_bipush dX13_body_135 rfl ?_
  refine Rn_bipush dX13_body_137 rfl ?_
  exact Rn_callS (avs := [vI 99, vI 111, vI 114, vI 107]) (st := [vR r0]) (bc1 := 0) (bs1 := 0) (bc2 := bc) (bs2 := bs) fx_X13_w4 dX13_body_139 (Or.inl wd_1520) wd_1521 rfl (Nat.le_of_ble_eq_true rfl) (Nat.le_of_ble_eq_true rfl) (by omega) (by omega) (ls1 := [some (vI 99), some (vI 111), some (vI 114), some (vI 107)]) rfl k
theorem BX13_body_142 {d bc bs : Nat} {h : aH} {n : Nat} {Q : aQ} {r0 : Option Nat} {x1 x2 x3 s1 : Int} {aq0 : Nat} {f2 : List aV} (b1 : -2147483648 ≤ x2 + 3 ∧ x2 + 3 < 2147483648) (h3 : h aq0 = cO 13 f2) (k : Rn d 0 0 mX13_worded 0 [some (vR (some aq0)), some (vL s1), none, some (vI (x2 + 3)), some (vI 1), some (vI 99)] [] h n (fun v h1 n1 => Rn (d + 1) bc bs mX13_body 151 [some (vR r0), some (vI x1), some (vI x2), some (vI x3)] (v.toList ++ []) h1 n1 Q)) : Rn (d + 1) (bc) (bs) mX13_body 142 [some (vR r0), some (vI x1), some (vI x2), some (vI x3)] [vL s1, vR (some aq0)] h n Q := by
  refine Rn_iload_n dX13_body_142 rfl rfl ?_
  refine Rn_iconst dX13_body_143 rfl ?_
  refine Rn_iadd dX13_body_144 ?_
  rw [w32_id b1.1 b1.2]
  refine Rn_iconst dX13_body_145 rfl ?_
  refine Rn_bipush dX13_body_146 rfl ?_
  exact Rn_callV (ci := 13) (avs := [vL s1, vI (x2 + 3), vI 1, vI 99]) (st := []) (bc1 := 0) (bs1 := 0) (bc2 := bc) (bs2 := bs) fx_X13_worded dX13_body_148 wd_1555 wd_1557 wd_56 rfl h3 rfl (Nat.le_of_ble_eq_true rfl) (Nat.le_of_ble_eq_true rfl) (by omega) (by omega) (ls1 := [some (vR (some aq0)), some (vL s1), none, some (vI (x2 + 3)), some (vI 1), some (vI 99)]) rfl k
theorem BX13_body_151 {d bc bs : Nat} {h : aH} {n : Nat} {Q : aQ} {r0 : Option Nat} {x1 x2 x3 s0 : Int} (k : Q (some (vI s0)) h n) : Rn d (bc) (bs) mX13_body 151 [some (vR r0), some (vI x1), some (vI x2), some (vI x3)] [vI s0] h n Q := by
  exact Rn_ireturn rfl dX13_body_151 k
theorem BX13_body_152 {d bc bs : Nat} {h : aH} {n : Nat} {Q : aQ} {r0 : Option Nat} {x1 x2 : Int} {l3 : Option aV} (k : Rn d 0 0 mX13_w2 0 [some (vI 98), some (vI 121)] [] h n (fun v h1 n1 => Rn (d + 1) bc bs mX13_body 163 [some (vR r0), some (vI x1), some (vI x2), l3] (v.toList ++ [vI 11, vI x2, vR r0]) h1 n1 Q)) : Rn (d + 1) (bc) (bs) mX13_body 152 [some (vR r0), some (vI x1), some (vI x2), l3] [] h n Q := by
  refine Rn_aload_n dX13_body_152 rfl rfl rfl ?_
  refine Rn_iload_n dX13_body_153 rfl rfl ?_
  refine Rn_bipush dX13_body_154 rfl ?_
  refine Rn_bipush dX13_body_156 rfl ?_
  refine Rn_bipush dX13_body_158 rfl ?_
  exact Rn_callS (avs := [vI 98, vI 121]) (st := [vI 11, vI x2, vR r0]) (bc1 := 0) (bs1 := 0) (bc2 := bc) (bs2 := bs) fx_X13_w2 dX13_body_160 (Or.inl wd_1526) wd_1527 rfl (Nat.le_of_ble_eq_true rfl) (Nat.le_of_ble_eq_true rfl) (by omega) (by omega) (ls1 := [some (vI 98), some (vI 121)]) rfl k
theorem BX13_body_163 {d bc bs : Nat} {h : aH} {n : Nat} {Q : aQ} {r0 : Option Nat} {x1 x2 s1 s2 s3 : Int} {l3 : Option aV} {aq0 : Nat} {f1 : List aV} (h2 : h aq0 = cO 13 f1) (k : Rn d 0 0 mX13_pair 0 [some (vR (some aq0)), some (vI s1), some (vI s2), some (vL s3), none, some (vI 5), none] [] h n (fun v h1 n1 => Rn (d + 1) bc bs mX13_body 167 [some (vR r0), some (vI x1), some (vI x2), l3] (v.toList ++ []) h1 n1 Q)) : Rn (d + 1) (bc) (bs) mX13_body 163 [some (vR r0), some (vI x1), some (vI x2), l3] [vL s3, vI s2, vI s1, vR (some aq0)] h n Q := by
  refine Rn_iconst dX13_body_163 rfl ?_
  exact Rn_callV (ci := 13) (avs := [vI s1, vI s2, vL s3, vI 5]) (st := []) (bc1 := 0) (bs1 := 0) (bc2 := bc) (bs2 := bs) fx_X13_pair dX13_body_164 wd_1547 wd_1549 wd_54 rfl h2 rfl (Nat.le_of_ble_eq_true rfl) (Nat.le_of_ble_eq_true rfl) (by omega) (by omega) (ls1 := [some (vR (some aq0)), some (vI s1), some (vI s2), some (vL s3), none, some (vI 5), none]) rfl k
theorem BX13_body_167 {d bc bs : Nat} {h : aH} {n : Nat} {Q : aQ} {r0 : Option Nat} {x1 x2 s0 : Int} {l3 : Option aV} (k : Q (some (vI s0)) h n) : Rn d (bc) (bs) mX13_body 167 [some (vR r0), some (vI x1), some (vI x2), l3] [vI s0] h n Q := by
  exact Rn_ireturn rfl dX13_body_167 k
theorem BX13_body_168 {d bc bs : Nat} {h : aH} {n : Nat} {Q : aQ} {ar0 : Nat} {x1 x2 : Int} {l3 : Option aV} {f2 : List aV} (b1 : -2147483648 ≤ x2 + 1 ∧ x2 + 1 < 2147483648) (h3 : h ar0 = cO 13 f2) (k : Rn d 0 0 mX13_figure 0 [some (vR (some ar0)), some (vI (x2 + 1)), some (vI 0), some (vI 11)] [] h n (fun v h1 n1 => Rn (d + 1) bc bs mX13_body 178 [some (vR (some ar0)), some (vI x1), some (vI x2), l3] (v.toList ++ []) h1 n1 Q)) : Rn (d + 1) (bc) (bs) mX13_body 168 [some (vR (some ar0)), some (vI x1), some (vI x2), l3] [] h n Q := by
  refine Rn_aload_n dX13_body_168 rfl rfl rfl ?_
  refine Rn_iload_n dX13_body_169 rfl rfl ?_
  refine Rn_iconst dX13_body_170 rfl ?_
  refine Rn_iadd dX13_body_171 ?_
  rw [w32_id b1.1 b1.2]
  refine Rn_iconst dX13_body_172 rfl ?_
  refine Rn_bipush dX13_body_173 rfl ?_
  exact Rn_callV (ci := 13) (avs := [vI (x2 + 1), vI 0, vI 11]) (st := []) (bc1 := 0) (bs1 := 0) (bc2 := bc) (bs2 := bs) fx_X13_figure dX13_body_175 wd_1551 wd_1553 wd_55 rfl h3 rfl (Nat.le_of_ble_eq_true rfl) (Nat.le_of_ble_eq_true rfl) (by omega) (by omega) (ls1 := [some (vR (some ar0)), some (vI (x2 + 1)), some (vI 0), some (vI 11)]) rfl k
theorem BX13_body_178 {d bc bs : Nat} {h : aH} {n : Nat} {Q : aQ} {r0 : Option Nat} {x1 x2 s0 : Int} {l3 : Option aV} (k : Q (some (vI s0)) h n) : Rn d (bc) (bs) mX13_body 178 [some (vR r0), some (vI x1), some (vI x2), l3] [vI s0] h n Q := by
  exact Rn_ireturn rfl dX13_body_178 k
theorem BX13_body_179 {d bc bs : Nat} {h : aH} {n : Nat} {Q : aQ} {ar0 : Nat} {x1 x2 : Int} {l3 : Option aV} {f2 : List aV} (b1 : -2147483648 ≤ x2 + 1 ∧ x2 + 1 < 2147483648) (h3 : h ar0 = cO 13 f2) (k : Rn d 0 0 mX13_figure 0 [some (vR (some ar0)), some (vI (x2 + 1)), some (vI 1), some (vI 60)] [] h n (fun v h1 n1 => Rn (d + 1) bc bs mX13_body 189 [some (vR (some ar0)), some (vI x1), some (vI x2), l3] (v.toList ++ []) h1 n1 Q)) : Rn (d + 1) (bc) (bs) mX13_body 179 [some (vR (some ar0)), some (vI x1), some (vI x2), l3] [] h n Q := by
  refine Rn_aload_n dX13_body_179 rfl rfl rfl ?_
  refine Rn_iload_n dX13_body_180 rfl rfl ?_
  refine Rn_iconst dX13_body_181 rfl ?_
  refine Rn_iadd dX13_body_182 ?_
  rw [w32_id b1.1 b1.2]
  refine Rn_iconst dX13_body_183 rfl ?_
  refine Rn_bipush dX13_body_184 rfl ?_
  exact Rn_callV (ci := 13) (avs := [vI (x2 + 1), vI 1, vI 60]) (st := []) (bc1 := 0) (bs1 := 0) (bc2 := bc) (bs2 := bs) fx_X13_figure dX13_body_186 wd_1551 wd_1553 wd_55 rfl h3 rfl (Nat.le_of_ble_eq_true rfl) (Nat.le_of_ble_eq_true rfl) (by omega) (by omega) (ls1 := [some (vR (some ar0)), some (vI (x2 + 1)), some (vI 1), some (vI 60)]) rfl k
theorem BX13_body_189 {d bc bs : Nat} {h : aH} {n : Nat} {Q : aQ} {r0 : Option Nat} {x1 x2 s0 : Int} {l3 : Option aV} (k : Q (some (vI s0)) h n) : Rn d (bc) (bs) mX13_body 189 [some (vR r0), some (vI x1), some (vI x2), l3] [vI s0] h n Q := by
  exact Rn_ireturn rfl dX13_body_189 k
theorem BX13_body_190 {d bc bs : Nat} {h : aH} {n : Nat} {Q : aQ} {ar0 : Nat} {x1 x2 : Int} {l3 : Option aV} {f1 : List aV} (h2 : h ar0 = cO 13 f1) (k : Rn d 0 0 mX13_lawClause 0 [some (vR (some ar0)), some (vI x2), none] [] h n (fun v h1 n1 => Rn (d + 1) bc bs mX13_body 195 [some (vR (some ar0)), some (vI x1), some (vI x2), l3] (v.toList ++ []) h1 n1 Q)) : Rn (d + 1) (bc) (bs) mX13_body 190 [some (vR (some ar0)), some (vI x1), some (vI x2), l3] [] h n Q := by
  refine Rn_aload_n dX13_body_190 rfl rfl rfl ?_
  refine Rn_iload_n dX13_body_191 rfl rfl ?_
  exact Rn_callV (ci := 13) (avs := [vI x2]) (st := []) (bc1 := 0) (bs1 := 0) (bc2 := bc) (bs2 := bs) fx_X13_lawClause dX13_body_192 wd_1559 wd_1561 wd_57 rfl h2 rfl (Nat.le_of_ble_eq_true rfl) (Nat.le_of_ble_eq_true rfl) (by omega) (by omega) (ls1 := [some (vR (some ar0)), some (vI x2), none]) rfl k
theorem BX13_body_195 {d bc bs : Nat} {h : aH} {n : Nat} {Q : aQ} {r0 : Option Nat} {x1 x2 s0 : Int} {l3 : Option aV} (k : Q (some (vI s0)) h n) : Rn d (bc) (bs) mX13_body 195 [some (vR r0), some (vI x1), some (vI x2), l3] [vI s0] h n Q := by
  exact Rn_ireturn rfl dX13_body_195 k
theorem dX13_sortOf_0 : decode cX13_sortOf 0 = .ok (.aload_n 0, 1) := by decide +kernel
theorem dX13_sortOf_1 : decode cX13_sortOf 1 = .ok (.bipush 99, 2) := by decide +kernel
theorem dX13_sortOf_3 : decode cX13_sortOf 3 = .ok (.bipush 111, 2) := by decide +kernel
theorem dX13_sortOf_5 : decode cX13_sortOf 5 = .ok (.bipush 109, 2) := by decide +kernel
theorem dX13_sortOf_7 : decode cX13_sortOf 7 = .ok (.bipush 101, 2) := by decide +kernel
theorem dX13_sortOf_9 : decode cX13_sortOf 9 = .ok (.bipush 115, 2) := by decide +kernel
theorem dX13_sortOf_11 : decode cX13_sortOf 11 = .ok (.invokestatic 138, 3) := by decide +kernel
theorem dX13_sortOf_14 : decode cX13_sortOf 14 = .ok (.invokevirtual 183, 3) := by decide +kernel
theorem dX13_sortOf_17 : decode cX13_sortOf 17 = .ok (.ifCond .eq 5, 3) := by decide +kernel
theorem dX13_sortOf_20 : decode cX13_sortOf 20 = .ok (.iconst 0, 1) := by decide +kernel
theorem dX13_sortOf_21 : decode cX13_sortOf 21 = .ok (.ireturn, 1) := by decide +kernel
theorem dX13_sortOf_22 : decode cX13_sortOf 22 = .ok (.aload_n 0, 1) := by decide +kernel
theorem dX13_sortOf_23 : decode cX13_sortOf 23 = .ok (.bipush 119, 2) := by decide +kernel
theorem dX13_sortOf_25 : decode cX13_sortOf 25 = .ok (.bipush 101, 2) := by decide +kernel
theorem dX13_sortOf_27 : decode cX13_sortOf 27 = .ok (.bipush 97, 2) := by decide +kernel
theorem dX13_sortOf_29 : decode cX13_sortOf 29 = .ok (.bipush 114, 2) := by decide +kernel
theorem dX13_sortOf_31 : decode cX13_sortOf 31 = .ok (.bipush 115, 2) := by decide +kernel
theorem dX13_sortOf_33 : decode cX13_sortOf 33 = .ok (.invokestatic 138, 3) := by decide +kernel
theorem dX13_sortOf_36 : decode cX13_sortOf 36 = .ok (.invokevirtual 183, 3) := by decide +kernel
theorem dX13_sortOf_39 : decode cX13_sortOf 39 = .ok (.ifCond .eq 5, 3) := by decide +kernel
theorem dX13_sortOf_42 : decode cX13_sortOf 42 = .ok (.iconst 1, 1) := by decide +kernel
theorem dX13_sortOf_43 : decode cX13_sortOf 43 = .ok (.ireturn, 1) := by decide +kernel
theorem dX13_sortOf_44 : decode cX13_sortOf 44 = .ok (.aload_n 0, 1) := by decide +kernel
theorem dX13_sortOf_45 : decode cX13_sortOf 45 = .ok (.bipush 112, 2) := by decide +kernel
theorem dX13_sortOf_47 : decode cX13_sortOf 47 = .ok (.bipush 101, 2) := by decide +kernel
theorem dX13_sortOf_49 : decode cX13_sortOf 49 = .ok (.bipush 114, 2) := by decide +kernel
theorem dX13_sortOf_51 : decode cX13_sortOf 51 = .ok (.bipush 115, 2) := by decide +kernel
theorem dX13_sortOf_53 : decode cX13_sortOf 53 = .ok (.bipush 111, 2) := by decide +kernel
theorem dX13_sortOf_55 : decode cX13_sortOf 55 = .ok (.bipush 110, 2) := by decide +kernel
theorem dX13_sortOf_57 : decode cX13_sortOf 57 = .ok (.invokestatic 187, 3) := by decide +kernel
theorem dX13_sortOf_60 : decode cX13_sortOf 60 = .ok (.invokevirtual 183, 3) := by decide +kernel
theorem dX13_sortOf_63 : decode cX13_sortOf 63 = .ok (.ifCond .eq 5, 3) := by decide +kernel
theorem dX13_sortOf_66 : decode cX13_sortOf 66 = .ok (.iconst 2, 1) := by decide +kernel
theorem dX13_sortOf_67 : decode cX13_sortOf 67 = .ok (.ireturn, 1) := by decide +kernel
theorem dX13_sortOf_68 : decode cX13_sortOf 68 = .ok (.aload_n 0, 1) := by decide +kernel
theorem dX13_sortOf_69 : decode cX13_sortOf 69 = .ok (.invokevirtual 237, 3) := by decide +kernel
theorem dX13_sortOf_72 : decode cX13_sortOf 72 = .ok (.ifCond .eq 5, 3) := by decide +kernel
theorem dX13_sortOf_75 : decode cX13_sortOf 75 = .ok (.iconst 3, 1) := by decide +kernel
theorem dX13_sortOf_76 : decode cX13_sortOf 76 = .ok (.ireturn, 1) := by decide +kernel
theorem dX13_sortOf_77 : decode cX13_sortOf 77 = .ok (.aload_n 0, 1) := by decide +kernel
theorem dX13_sortOf_78 : decode cX13_sortOf 78 = .ok (.bipush 116, 2) := by decide +kernel
theorem dX13_sortOf_80 : decode cX13_sortOf 80 = .ok (.bipush 111, 2) := by decide +kernel
theorem dX13_sortOf_82 : decode cX13_sortOf 82 = .ok (.bipush 115, 2) := by decide +kernel
theorem dX13_sortOf_84 : decode cX13_sortOf 84 = .ok (.bipush 115, 2) := by decide +kernel
theorem dX13_sortOf_86 : decode cX13_sortOf 86 = .ok (.invokestatic 134, 3) := by decide +kernel
theorem dX13_sortOf_89 : decode cX13_sortOf 89 = .ok (.invokevirtual 183, 3) := by decide +kernel
theorem dX13_sortOf_92 : decode cX13_sortOf 92 = .ok (.ifCond .eq 5, 3) := by decide +kernel
theorem dX13_sortOf_95 : decode cX13_sortOf 95 = .ok (.iconst 4, 1) := by decide +kernel
theorem dX13_sortOf_96 : decode cX13_sortOf 96 = .ok (.ireturn, 1) := by decide +kernel
theorem dX13_sortOf_97 : decode cX13_sortOf 97 = .ok (.aload_n 0, 1) := by decide +kernel
theorem dX13_sortOf_98 : decode cX13_sortOf 98 = .ok (.bipush 102, 2) := by decide +kernel
theorem dX13_sortOf_100 : decode cX13_sortOf 100 = .ok (.bipush 105, 2) := by decide +kernel
theorem dX13_sortOf_102 : decode cX13_sortOf 102 = .ok (.bipush 115, 2) := by decide +kernel
theorem dX13_sortOf_104 : decode cX13_sortOf 104 = .ok (.bipush 104, 2) := by decide +kernel
theorem dX13_sortOf_106 : decode cX13_sortOf 106 = .ok (.invokestatic 134, 3) := by decide +kernel
theorem dX13_sortOf_109 : decode cX13_sortOf 109 = .ok (.invokevirtual 183, 3) := by decide +kernel
theorem dX13_sortOf_112 : decode cX13_sortOf 112 = .ok (.ifCond .eq 5, 3) := by decide +kernel
theorem dX13_sortOf_115 : decode cX13_sortOf 115 = .ok (.iconst 5, 1) := by decide +kernel
theorem dX13_sortOf_116 : decode cX13_sortOf 116 = .ok (.ireturn, 1) := by decide +kernel
theorem dX13_sortOf_117 : decode cX13_sortOf 117 = .ok (.aload_n 0, 1) := by decide +kernel
theorem dX13_sortOf_118 : decode cX13_sortOf 118 = .ok (.bipush 97, 2) := by decide +kernel
theorem dX13_sortOf_120 : decode cX13_sortOf 120 = .ok (.bipush 103, 2) := by decide +kernel
theorem dX13_sortOf_122 : decode cX13_sortOf 122 = .ok (.bipush 97, 2) := by decide +kernel
theorem dX13_sortOf_124 : decode cX13_sortOf 124 = .ok (.bipush 105, 2) := by decide +kernel
theorem dX13_sortOf_126 : decode cX13_sortOf 126 = .ok (.bipush 110, 2) := by decide +kernel
theorem dX13_sortOf_128 : decode cX13_sortOf 128 = .ok (.invokestatic 138, 3) := by decide +kernel
theorem dX13_sortOf_131 : decode cX13_sortOf 131 = .ok (.invokevirtual 183, 3) := by decide +kernel
theorem dX13_sortOf_134 : decode cX13_sortOf 134 = .ok (.ifCond .eq 8, 3) := by decide +kernel
theorem dX13_sortOf_137 : decode cX13_sortOf 137 = .ok (.bipush 6, 2) := by decide +kernel
theorem dX13_sortOf_139 : decode cX13_sortOf 139 = .ok (.goto 27, 3) := by decide +kernel
theorem dX13_sortOf_142 : decode cX13_sortOf 142 = .ok (.aload_n 0, 1) := by decide +kernel
theorem dX13_sortOf_143 : decode cX13_sortOf 143 = .ok (.bipush 116, 2) := by decide +kernel
theorem dX13_sortOf_145 : decode cX13_sortOf 145 = .ok (.bipush 105, 2) := by decide +kernel
theorem dX13_sortOf_147 : decode cX13_sortOf 147 = .ok (.bipush 100, 2) := by decide +kernel
theorem dX13_sortOf_149 : decode cX13_sortOf 149 = .ok (.bipush 101, 2) := by decide +kernel
theorem dX13_sortOf_151 : decode cX13_sortOf 151 = .ok (.invokestatic 134, 3) := by decide +kernel
theorem dX13_sortOf_154 : decode cX13_sortOf 154 = .ok (.invokevirtual 183, 3) := by decide +kernel
theorem dX13_sortOf_157 : decode cX13_sortOf 157 = .ok (.ifCond .eq 8, 3) := by decide +kernel
theorem dX13_sortOf_160 : decode cX13_sortOf 160 = .ok (.bipush 7, 2) := by decide +kernel
theorem dX13_sortOf_162 : decode cX13_sortOf 162 = .ok (.goto 4, 3) := by decide +kernel
theorem dX13_sortOf_165 : decode cX13_sortOf 165 = .ok (.iconst (-1), 1) := by decide +kernel
theorem dX13_sortOf_166 : decode cX13_sortOf 166 = .ok (.ireturn, 1) := by decide +kernel
theorem BX13_sortOf_0 {d bc bs : Nat} {h : aH} {n : Nat} {Q : aQ} {r0 : Option Nat} (k : Rn d 0 0 mX13_w5 0 [some (vI 99), some (vI 111), some (vI 109), some (vI 101), some (vI 115)] [] h n (fun v h1 n1 => Rn (d + 1) bc bs mX13_sortOf 14 [some (vR r0)] (v.toList ++ [vR r0]) h1 n1 Q)) : Rn (d + 1) (bc) (bs) mX13_sortOf 0 [some (vR r0)] [] h n Q := by
  refine Rn_aload_n dX13_sortOf_0 rfl rfl rfl ?_
  refine Rn_bipush dX13_sortOf_1 rfl ?_
  refine Rn_bipush dX13_sortOf_3 rfl ?_
  refine Rn_bipush dX13_sortOf_5 rfl ?_
  refine Rn_bipush dX13_sortOf_7 rfl ?_
  refine Rn_bipush dX13_sortOf_9 rfl ?_
  exact Rn_callS (avs := [vI 99, vI 111, vI 109, vI 101, vI 115]) (st := [vR r0]) (bc1 := 0) (bs1 := 0) (bc2 := bc) (bs2 := bs) fx_X13_w5 dX13_sortOf_11 (Or.inl wd_1517) wd_1518 rfl (Nat.le_of_ble_eq_true rfl) (Nat.le_of_ble_eq_true rfl) (by omega) (by omega) (ls1 := [some (vI 99), some (vI 111), some (vI 109), some (vI 101), some (vI 115)]) rfl k
theorem BX13_sortOf_14 {d bc bs : Nat} {h : aH} {n : Nat} {Q : aQ} {r0 : Option Nat} {aq0 : Nat} {s1 : Int} {f1 : List aV} (h2 : h aq0 = cO 13 f1) (k : Rn d 0 0 mX13_isWord 0 [some (vR (some aq0)), some (vL s1), none] [] h n (fun v h1 n1 => Rn (d + 1) bc bs mX13_sortOf 17 [some (vR r0)] (v.toList ++ []) h1 n1 Q)) : Rn (d + 1) (bc) (bs) mX13_sortOf 14 [some (vR r0)] [vL s1, vR (some aq0)] h n Q := by
  exact Rn_callV (ci := 13) (avs := [vL s1]) (st := []) (bc1 := 0) (bs1 := 0) (bc2 := bc) (bs2 := bs) fx_X13_isWord dX13_sortOf_14 wd_1529 wd_1531 wd_51 rfl h2 rfl (Nat.le_of_ble_eq_true rfl) (Nat.le_of_ble_eq_true rfl) (by omega) (by omega) (ls1 := [some (vR (some aq0)), some (vL s1), none]) rfl k
theorem BX13_sortOf_17 {d bc bs : Nat} {h : aH} {n : Nat} {Q : aQ} {r0 : Option Nat} {s0 : Int} (kt : s0 = 0 → Rn d bc bs mX13_sortOf 22 [some (vR r0)] [] h n Q) (kf : s0 ≠ 0 → Rn d bc bs mX13_sortOf 20 [some (vR r0)] [] h n Q) : Rn d (bc) (bs) mX13_sortOf 17 [some (vR r0)] [vI s0] h n Q := by
  refine Rn_ifeq (tgt := 22) dX13_sortOf_17 rfl ?_ ?_
  · exact kt
  · exact kf
theorem BX13_sortOf_20 {d bc bs : Nat} {h : aH} {n : Nat} {Q : aQ} {r0 : Option Nat} (k : Q (some (vI 0)) h n) : Rn d (bc) (bs) mX13_sortOf 20 [some (vR r0)] [] h n Q := by
  refine Rn_iconst dX13_sortOf_20 rfl ?_
  exact Rn_ireturn rfl dX13_sortOf_21 k
theorem BX13_sortOf_22 {d bc bs : Nat} {h : aH} {n : Nat} {Q : aQ} {r0 : Option Nat} (k : Rn d 0 0 mX13_w5 0 [some (vI 119), some (vI 101), some (vI 97), some (vI 114), some (vI 115)] [] h n (fun v h1 n1 => Rn (d + 1) bc bs mX13_sortOf 36 [some (vR r0)] (v.toList ++ [vR r0]) h1 n1 Q)) : Rn (d + 1) (bc) (bs) mX13_sortOf 22 [some (vR r0)] [] h n Q := by
  refine Rn_aload_n dX13_sortOf_22 rfl rfl rfl ?_
  refine Rn_bipush dX13_sortOf_23 rfl ?_
  refine Rn_bipush dX13_sortOf_25 rfl ?_
  refine Rn_bipush dX13_sortOf_27 rfl ?_
  refine Rn_bipush dX13_sortOf_29 rfl ?_
  refine Rn_bipush dX13_sortOf_31 rfl ?_
  exact Rn_callS (avs := [vI 119, vI 101, vI 97, vI 114, vI 115]) (st := [vR r0]) (bc1 := 0) (bs1 := 0) (bc2 := bc) (bs2 := bs) fx_X13_w5 dX13_sortOf_33 (Or.inl wd_1517) wd_1518 rfl (Nat.le_of_ble_eq_true rfl) (Nat.le_of_ble_eq_true rfl) (by omega) (by omega) (ls1 := [some (vI 119), some (vI 101), some (vI 97), some (vI 114), some (vI 115)]) rfl k
theorem BX13_sortOf_36 {d bc bs : Nat} {h : aH} {n : Nat} {Q : aQ} {r0 : Option Nat} {aq0 : Nat} {s1 : Int} {f1 : List aV} (h2 : h aq0 = cO 13 f1) (k : Rn d 0 0 mX13_isWord 0 [some (vR (some aq0)), some (vL s1), none] [] h n (fun v h1 n1 => Rn (d + 1) bc bs mX13_sortOf 39 [some (vR r0)] (v.toList ++ []) h1 n1 Q)) : Rn (d + 1) (bc) (bs) mX13_sortOf 36 [some (vR r0)] [vL s1, vR (some aq0)] h n Q := by
  exact Rn_callV (ci := 13) (avs := [vL s1]) (st := []) (bc1 := 0) (bs1 := 0) (bc2 := bc) (bs2 := bs) fx_X13_isWord dX13_sortOf_36 wd_1529 wd_1531 wd_51 rfl h2 rfl (Nat.le_of_ble_eq_true rfl) (Nat.le_of_ble_eq_true rfl) (by omega) (by omega) (ls1 := [some (vR (some aq0)), some (vL s1), none]) rfl k
theorem BX13_sortOf_39 {d bc bs : Nat} {h : aH} {n : Nat} {Q : aQ} {r0 : Option Nat} {s0 : Int} (kt : s0 = 0 → Rn d bc bs mX13_sortOf 44 [some (vR r0)] [] h n Q) (kf : s0 ≠ 0 → Rn d bc bs mX13_sortOf 42 [some (vR r0)] [] h n Q) : Rn d (bc) (bs) mX13_sortOf 39 [some (vR r0)] [vI s0] h n Q := by
  refine Rn_ifeq (tgt := 44) dX13_sortOf_39 rfl ?_ ?_
  · exact kt
  · exact kf
theorem BX13_sortOf_42 {d bc bs : Nat} {h : aH} {n : Nat} {Q : aQ} {r0 : Option Nat} (k : Q (some (vI 1)) h n) : Rn d (bc) (bs) mX13_sortOf 42 [some (vR r0)] [] h n Q := by
  refine Rn_iconst dX13_sortOf_42 rfl ?_
  exact Rn_ireturn rfl dX13_sortOf_43 k
theorem BX13_sortOf_44 {d bc bs : Nat} {h : aH} {n : Nat} {Q : aQ} {r0 : Option Nat} (k : Rn d 0 0 mX13_w6 0 [some (vI 112), some (vI 101), some (vI 114), some (vI 115), some (vI 111), some (vI 110)] [] h n (fun v h1 n1 => Rn (d + 1) bc bs mX13_sortOf 60 [some (vR r0)] (v.toList ++ [vR r0]) h1 n1 Q)) : Rn (d + 1) (bc) (bs) mX13_sortOf 44 [some (vR r0)] [] h n Q := by
  refine Rn_aload_n dX13_sortOf_44 rfl rfl rfl ?_
  refine Rn_bipush dX13_sortOf_45 rfl ?_
  refine Rn_bipush dX13_sortOf_47 rfl ?_
  refine Rn_bipush dX13_sortOf_49 rfl ?_
  refine Rn_bipush dX13_sortOf_51 rfl ?_
  refine Rn_bipush dX13_sortOf_53 rfl ?_
  refine Rn_bipush dX13_sortOf_55 rfl ?_
  exact Rn_callS (avs := [vI 112, vI 101, vI 114, vI 115, vI 111, vI 110]) (st := [vR r0]) (bc1 := 0) (bs1 := 0) (bc2 := bc) (bs2 := bs) fx_X13_w6 dX13_sortOf_57 (Or.inl wd_1533) wd_1534 rfl (Nat.le_of_ble_eq_true rfl) (Nat.le_of_ble_eq_true rfl) (by omega) (by omega) (ls1 := [some (vI 112), some (vI 101), some (vI 114), some (vI 115), some (vI 111), some (vI 110)]) rfl k
theorem BX13_sortOf_60 {d bc bs : Nat} {h : aH} {n : Nat} {Q : aQ} {r0 : Option Nat} {aq0 : Nat} {s1 : Int} {f1 : List aV} (h2 : h aq0 = cO 13 f1) (k : Rn d 0 0 mX13_isWord 0 [some (vR (some aq0)), some (vL s1), none] [] h n (fun v h1 n1 => Rn (d + 1) bc bs mX13_sortOf 63 [some (vR r0)] (v.toList ++ []) h1 n1 Q)) : Rn (d + 1) (bc) (bs) mX13_sortOf 60 [some (vR r0)] [vL s1, vR (some aq0)] h n Q := by
  exact Rn_callV (ci := 13) (avs := [vL s1]) (st := []) (bc1 := 0) (bs1 := 0) (bc2 := bc) (bs2 := bs) fx_X13_isWord dX13_sortOf_60 wd_1529 wd_1531 wd_51 rfl h2 rfl (Nat.le_of_ble_eq_true rfl) (Nat.le_of_ble_eq_true rfl) (by omega) (by omega) (ls1 := [some (vR (some aq0)), some (vL s1), none]) rfl k
theorem BX13_sortOf_63 {d bc bs : Nat} {h : aH} {n : Nat} {Q : aQ} {r0 : Option Nat} {s0 : Int} (kt : s0 = 0 → Rn d bc bs mX13_sortOf 68 [some (vR r0)] [] h n Q) (kf : s0 ≠ 0 → Rn d bc bs mX13_sortOf 66 [some (vR r0)] [] h n Q) : Rn d (bc) (bs) mX13_sortOf 63 [some (vR r0)] [vI s0] h n Q := by
  refine Rn_ifeq (tgt := 68) dX13_sortOf_63 rfl ?_ ?_
  · exact kt
  · exact kf
theorem BX13_sortOf_66 {d bc bs : Nat} {h : aH} {n : Nat} {Q : aQ} {r0 : Option Nat} (k : Q (some (vI 2)) h n) : Rn d (bc) (bs) mX13_sortOf 66 [some (vR r0)] [] h n Q := by
  refine Rn_iconst dX13_sortOf_66 rfl ?_
  exact Rn_ireturn rfl dX13_sortOf_67 k
theorem BX13_sortOf_68 {d bc bs : Nat} {h : aH} {n : Nat} {Q : aQ} {ar0 : Nat} {f1 : List aV} (h2 : h ar0 = cO 13 f1) (k : Rn d 0 0 mX13_isCurrent 0 [some (vR (some ar0))] [] h n (fun v h1 n1 => Rn (d + 1) bc bs mX13_sortOf 72 [some (vR (some ar0))] (v.toList ++ []) h1 n1 Q)) : Rn (d + 1) (bc) (bs) mX13_sortOf 68 [some (vR (some ar0))] [] h n Q := by
  refine Rn_aload_n dX13_sortOf_68 rfl rfl rfl ?_
  exact Rn_callV (ci := 13) (avs := []) (st := []) (bc1 := 0) (bs1 := 0) (bc2 := bc) (bs2 := bs) fx_X13_isCurrent dX13_sortOf_69 wd_1536 wd_1538 wd_52 rfl h2 rfl (Nat.le_of_ble_eq_true rfl) (Nat.le_of_ble_eq_true rfl) (by omega) (by omega) (ls1 := [some (vR (some ar0))]) rfl k
theorem BX13_sortOf_72 {d bc bs : Nat} {h : aH} {n : Nat} {Q : aQ} {r0 : Option Nat} {s0 : Int} (kt : s0 = 0 → Rn d bc bs mX13_sortOf 77 [some (vR r0)] [] h n Q) (kf : s0 ≠ 0 → Rn d bc bs mX13_sortOf 75 [some (vR r0)] [] h n Q) : Rn d (bc) (bs) mX13_sortOf 72 [some (vR r0)] [vI s0] h n Q := by
  refine Rn_ifeq (tgt := 77) dX13_sortOf_72 rfl ?_ ?_
  · exact kt
  · exact kf
theorem BX13_sortOf_75 {d bc bs : Nat} {h : aH} {n : Nat} {Q : aQ} {r0 : Option Nat} (k : Q (some (vI 3)) h n) : Rn d (bc) (bs) mX13_sortOf 75 [some (vR r0)] [] h n Q := by
  refine Rn_iconst dX13_sortOf_75 rfl ?_
  exact Rn_ireturn rfl dX13_sortOf_76 k
theorem BX13_sortOf_77 {d bc bs : Nat} {h : aH} {n : Nat} {Q : aQ} {r0 : Option Nat} (k : Rn d 0 0 mX13_w4 0 [some (vI 116), some (vI 111), some (vI 115), some (vI 115)] [] h n (fun v h1 n1 => Rn (d + 1) bc bs mX13_sortOf 89 [some (vR r0)] (v.toList ++ [vR r0]) h1 n1 Q)) : Rn (d + 1) (bc) (bs) mX13_sortOf 77 [some (vR r0)] [] h n Q := by
  refine Rn_aload_n dX13_sortOf_77 rfl rfl rfl ?_
  refine Rn_bipush dX13_sortOf_78 rfl ?_
  refine Rn_bipush dX13_sortOf_80 rfl ?_
  refine Rn_bipush dX13_sortOf_82 rfl ?_
  refine Rn_bipush dX13_sortOf_84 rfl ?_
  exact Rn_callS (avs := [vI 116, vI 111, vI 115, vI 115]) (st := [vR r0]) (bc1 := 0) (bs1 := 0) (bc2 := bc) (bs2 := bs) fx_X13_w4 dX13_sortOf_86 (Or.inl wd_1520) wd_1521 rfl (Nat.le_of_ble_eq_true rfl) (Nat.le_of_ble_eq_true rfl) (by omega) (by omega) (ls1 := [some (vI 116), some (vI 111), some (vI 115), some (vI 115)]) rfl k
theorem BX13_sortOf_89 {d bc bs : Nat} {h : aH} {n : Nat} {Q : aQ} {r0 : Option Nat} {aq0 : Nat} {s1 : Int} {f1 : List aV} (h2 : h aq0 = cO 13 f1) (k : Rn d 0 0 mX13_isWord 0 [some (vR (some aq0)), some (vL s1), none] [] h n (fun v h1 n1 => Rn (d + 1) bc bs mX13_sortOf 92 [some (vR r0)] (v.toList ++ []) h1 n1 Q)) : Rn (d + 1) (bc) (bs) mX13_sortOf 89 [some (vR r0)] [vL s1, vR (some aq0)] h n Q := by
  exact Rn_callV (ci := 13) (avs := [vL s1]) (st := []) (bc1 := 0) (bs1 := 0) (bc2 := bc) (bs2 := bs) fx_X13_isWord dX13_sortOf_89 wd_1529 wd_1531 wd_51 rfl h2 rfl (Nat.le_of_ble_eq_true rfl) (Nat.le_of_ble_eq_true rfl) (by omega) (by omega) (ls1 := [some (vR (some aq0)), some (vL s1), none]) rfl k
theorem BX13_sortOf_92 {d bc bs : Nat} {h : aH} {n : Nat} {Q : aQ} {r0 : Option Nat} {s0 : Int} (kt : s0 = 0 → Rn d bc bs mX13_sortOf 97 [some (vR r0)] [] h n Q) (kf : s0 ≠ 0 → Rn d bc bs mX13_sortOf 95 [some (vR r0)] [] h n Q) : Rn d (bc) (bs) mX13_sortOf 92 [some (vR r0)] [vI s0] h n Q := by
  refine Rn_ifeq (tgt := 97) dX13_sortOf_92 rfl ?_ ?_
  · exact kt
  · exact kf
theorem BX13_sortOf_95 {d bc bs : Nat} {h : aH} {n : Nat} {Q : aQ} {r0 : Option Nat} (k : Q (some (vI 4)) h n) : Rn d (bc) (bs) mX13_sortOf 95 [some (vR r0)] [] h n Q := by
  refine Rn_iconst dX13_sortOf_95 rfl ?_
  exact Rn_ireturn rfl dX13_sortOf_96 k
theorem BX13_sortOf_97 {d bc bs : Nat} {h : aH} {n : Nat} {Q : aQ} {r0 : Option Nat} (k : Rn d 0 0 mX13_w4 0 [some (vI 102), some (vI 105), some (vI 115), some (vI 104)] [] h n (fun v h1 n1 => Rn (d + 1) bc bs mX13_sortOf 109 [some (vR r0)] (v.toList ++ [vR r0]) h1 n1 Q)) : Rn (d + 1) (bc) (bs) mX13_sortOf 97 [some (vR r0)] [] h n Q := by
  refine Rn_aload_n dX13_sortOf_97 rfl rfl rfl ?_
  refine Rn_bipush dX13_sortOf_98 rfl ?_
  refine Rn_bipush dX13_sortOf_100 rfl ?_
  refine Rn_bipush dX13_sortOf_102 rfl ?_
  refine Rn_bipush dX13_sortOf_104 rfl ?_
  exact Rn_callS (avs := [vI 102, vI 105, vI 115, vI 104]) (st := [vR r0]) (bc1 := 0) (bs1 := 0) (bc2 := bc) (bs2 := bs) fx_X13_w4 dX13_sortOf_106 (Or.inl wd_1520) wd_1521 rfl (Nat.le_of_ble_eq_true rfl) (Nat.le_of_ble_eq_true rfl) (by omega) (by omega) (ls1 := [some (vI 102), some (vI 105), some (vI 115), some (vI 104)]) rfl k
theorem BX13_sortOf_109 {d bc bs : Nat} {h : aH} {n : Nat} {Q : aQ} {r0 : Option Nat} {aq0 : Nat} {s1 : Int} {f1 : List aV} (h2 : h aq0 = cO 13 f1) (k : Rn d 0 0 mX13_isWord 0 [some (vR (some aq0)), some (vL s1), none] [] h n (fun v h1 n1 => Rn (d + 1) bc bs mX13_sortOf 112 [some (vR r0)] (v.toList ++ []) h1 n1 Q)) : Rn (d + 1) (bc) (bs) mX13_sortOf 109 [some (vR r0)] [vL s1, vR (some aq0)] h n Q := by
  exact Rn_callV (ci := 13) (avs := [vL s1]) (st := []) (bc1 := 0) (bs1 := 0) (bc2 := bc) (bs2 := bs) fx_X13_isWord dX13_sortOf_109 wd_1529 wd_1531 wd_51 rfl h2 rfl (Nat.le_of_ble_eq_true rfl) (Nat.le_of_ble_eq_true rfl) (by omega) (by omega) (ls1 := [some (vR (some aq0)), some (vL s1), none]) rfl k
theorem BX13_sortOf_112 {d bc bs : Nat} {h : aH} {n : Nat} {Q : aQ} {r0 : Option Nat} {s0 : Int} (kt : s0 = 0 → Rn d bc bs mX13_sortOf 117 [some (vR r0)] [] h n Q) (kf : s0 ≠ 0 → Rn d bc bs mX13_sortOf 115 [some (vR r0)] [] h n Q) : Rn d (bc) (bs) mX13_sortOf 112 [some (vR r0)] [vI s0] h n Q := by
  refine Rn_ifeq (tgt := 117) dX13_sortOf_112 rfl ?_ ?_
  · exact kt
  · exact kf
theorem BX13_sortOf_115 {d bc bs : Nat} {h : aH} {n : Nat} {Q : aQ} {r0 : Option Nat} (k : Q (some (vI 5)) h n) : Rn d (bc) (bs) mX13_sortOf 115 [some (vR r0)] [] h n Q := by
  refine Rn_iconst dX13_sortOf_115 rfl ?_
  exact Rn_ireturn rfl dX13_sortOf_116 k
theorem BX13_sortOf_117 {d bc bs : Nat} {h : aH} {n : Nat} {Q : aQ} {r0 : Option Nat} (k : Rn d 0 0 mX13_w5 0 [some (vI 97), some (vI 103), some (vI 97), some (vI 105), some (vI 110)] [] h n (fun v h1 n1 => Rn (d + 1) bc bs mX13_sortOf 131 [some (vR r0)] (v.toList ++ [vR r0]) h1 n1 Q)) : Rn (d + 1) (bc) (bs) mX13_sortOf 117 [some (vR r0)] [] h n Q := by
  refine Rn_aload_n dX13_sortOf_117 rfl rfl rfl ?_
  refine Rn_bipush dX13_sortOf_118 rfl ?_
  refine Rn_bipush dX13_sortOf_120 rfl ?_
  refine Rn_bipush dX13_sortOf_122 rfl ?_
  refine Rn_bipush dX13_sortOf_124 rfl ?_
  refine Rn_bipush dX13_sortOf_126 rfl ?_
  exact Rn_callS (avs := [vI 97, vI 103, vI 97, vI 105, vI 110]) (st := [vR r0]) (bc1 := 0) (bs1 := 0) (bc2 := bc) (bs2 := bs) fx_X13_w5 dX13_sortOf_128 (Or.inl wd_1517) wd_1518 rfl (Nat.le_of_ble_eq_true rfl) (Nat.le_of_ble_eq_true rfl) (by omega) (by omega) (ls1 := [some (vI 97), some (vI 103), some (vI 97), some (vI 105), some (vI 110)]) rfl k
theorem BX13_sortOf_131 {d bc bs : Nat} {h : aH} {n : Nat} {Q : aQ} {r0 : Option Nat} {aq0 : Nat} {s1 : Int} {f1 : List aV} (h2 : h aq0 = cO 13 f1) (k : Rn d 0 0 mX13_isWord 0 [some (vR (some aq0)), some (vL s1), none] [] h n (fun v h1 n1 => Rn (d + 1) bc bs mX13_sortOf 134 [some (vR r0)] (v.toList ++ []) h1 n1 Q)) : Rn (d + 1) (bc) (bs) mX13_sortOf 131 [some (vR r0)] [vL s1, vR (some aq0)] h n Q := by
  exact Rn_callV (ci := 13) (avs := [vL s1]) (st := []) (bc1 := 0) (bs1 := 0) (bc2 := bc) (bs2 := bs) fx_X13_isWord dX13_sortOf_131 wd_1529 wd_1531 wd_51 rfl h2 rfl (Nat.le_of_ble_eq_true rfl) (Nat.le_of_ble_eq_true rfl) (by omega) (by omega) (ls1 := [some (vR (some aq0)), some (vL s1), none]) rfl k
theorem BX13_sortOf_134 {d bc bs : Nat} {h : aH} {n : Nat} {Q : aQ} {r0 : Option Nat} {s0 : Int} (kt : s0 = 0 → Rn d bc bs mX13_sortOf 142 [some (vR r0)] [] h n Q) (kf : s0 ≠ 0 → Rn d bc bs mX13_sortOf 137 [some (vR r0)] [] h n Q) : Rn d (bc) (bs) mX13_sortOf 134 [some (vR r0)] [vI s0] h n Q := by
  refine Rn_ifeq (tgt := 142) dX13_sortOf_134 rfl ?_ ?_
  · exact kt
  · exact kf
theorem BX13_sortOf_137 {d bc bs : Nat} {h : aH} {n : Nat} {Q : aQ} {r0 : Option Nat} (k : Q (some (vI 6)) h n) : Rn d (bc) (bs) mX13_sortOf 137 [some (vR r0)] [] h n Q := by
  refine Rn_bipush dX13_sortOf_137 rfl ?_
  refine Rn_goto (tgt := 166) dX13_sortOf_139 rfl ?_
  exact Rn_ireturn rfl dX13_sortOf_166 k
theorem BX13_sortOf_142 {d bc bs : Nat} {h : aH} {n : Nat} {Q : aQ} {r0 : Option Nat} (k : Rn d 0 0 mX13_w4 0 [some (vI 116), some (vI 105), some (vI 100), some (vI 101)] [] h n (fun v h1 n1 => Rn (d + 1) bc bs mX13_sortOf 154 [some (vR r0)] (v.toList ++ [vR r0]) h1 n1 Q)) : Rn (d + 1) (bc) (bs) mX13_sortOf 142 [some (vR r0)] [] h n Q := by
  refine Rn_aload_n dX13_sortOf_142 rfl rfl rfl ?_
  refine Rn_bipush dX13_sortOf_143 rfl ?_
  refine Rn_bipush dX13_sortOf_145 rfl ?_
  refine Rn_bipush dX13_sortOf_147 rfl ?_
  refine Rn_bipush dX13_sortOf_149 rfl ?_
  exact Rn_callS (avs := [vI 116, vI 105, vI 100, vI 101]) (st := [vR r0]) (bc1 := 0) (bs1 := 0) (bc2 := bc) (bs2 := bs) fx_X13_w4 dX13_sortOf_151 (Or.inl wd_1520) wd_1521 rfl (Nat.le_of_ble_eq_true rfl) (Nat.le_of_ble_eq_true rfl) (by omega) (by omega) (ls1 := [some (vI 116), some (vI 105), some (vI 100), some (vI 101)]) rfl k
theorem BX13_sortOf_154 {d bc bs : Nat} {h : aH} {n : Nat} {Q : aQ} {r0 : Option Nat} {aq0 : Nat} {s1 : Int} {f1 : List aV} (h2 : h aq0 = cO 13 f1) (k : Rn d 0 0 mX13_isWord 0 [some (vR (some aq0)), some (vL s1), none] [] h n (fun v h1 n1 => Rn (d + 1) bc bs mX13_sortOf 157 [some (vR r0)] (v.toList ++ []) h1 n1 Q)) : Rn (d + 1) (bc) (bs) mX13_sortOf 154 [some (vR r0)] [vL s1, vR (some aq0)] h n Q := by
  exact Rn_callV (ci := 13) (avs := [vL s1]) (st := []) (bc1 := 0) (bs1 := 0) (bc2 := bc) (bs2 := bs) fx_X13_isWord dX13_sortOf_154 wd_1529 wd_1531 wd_51 rfl h2 rfl (Nat.le_of_ble_eq_true rfl) (Nat.le_of_ble_eq_true rfl) (by omega) (by omega) (ls1 := [some (vR (some aq0)), some (vL s1), none]) rfl k
theorem BX13_sortOf_157 {d bc bs : Nat} {h : aH} {n : Nat} {Q : aQ} {r0 : Option Nat} {s0 : Int} (kt : s0 = 0 → Rn d bc bs mX13_sortOf 165 [some (vR r0)] [] h n Q) (kf : s0 ≠ 0 → Rn d bc bs mX13_sortOf 160 [some (vR r0)] [] h n Q) : Rn d (bc) (bs) mX13_sortOf 157 [some (vR r0)] [vI s0] h n Q := by
  refine Rn_ifeq (tgt := 165) dX13_sortOf_157 rfl ?_ ?_
  · exact kt
  · exact kf
theorem BX13_sortOf_160 {d bc bs : Nat} {h : aH} {n : Nat} {Q : aQ} {r0 : Option Nat} (k : Q (some (vI 7)) h n) : Rn d (bc) (bs) mX13_sortOf 160 [some (vR r0)] [] h n Q := by
  refine Rn_bipush dX13_sortOf_160 rfl ?_
  refine Rn_goto (tgt := 166) dX13_sortOf_162 rfl ?_
  exact Rn_ireturn rfl dX13_sortOf_166 k
theorem BX13_sortOf_165 {d bc bs : Nat} {h : aH} {n : Nat} {Q : aQ} {r0 : Option Nat} (k : Q (some (vI (-1))) h n) : Rn d (bc) (bs) mX13_sortOf 165 [some (vR r0)] [] h n Q := by
  refine Rn_iconst dX13_sortOf_165 rfl ?_
  exact Rn_ireturn rfl dX13_sortOf_166 k
theorem dX13_clause_0 : decode cX13_clause 0 = .ok (.aload_n 0, 1) := by decide +kernel
theorem dX13_clause_1 : decode cX13_clause 1 = .ok (.invokevirtual 240, 3) := by decide +kernel
theorem dX13_clause_4 : decode cX13_clause 4 = .ok (.istore_n 1, 1) := by decide +kernel
theorem dX13_clause_5 : decode cX13_clause 5 = .ok (.iload_n 1, 1) := by decide +kernel
theorem dX13_clause_6 : decode cX13_clause 6 = .ok (.ifCond .ge 5, 3) := by decide +kernel
theorem dX13_clause_9 : decode cX13_clause 9 = .ok (.iconst 1, 1) := by decide +kernel
theorem dX13_clause_10 : decode cX13_clause 10 = .ok (.ireturn, 1) := by decide +kernel
theorem dX13_clause_11 : decode cX13_clause 11 = .ok (.iload_n 1, 1) := by decide +kernel
theorem dX13_clause_12 : decode cX13_clause 12 = .ok (.iconst 1, 1) := by decide +kernel
theorem dX13_clause_13 : decode cX13_clause 13 = .ok (.if_icmp .gt 16, 3) := by decide +kernel
theorem dX13_clause_16 : decode cX13_clause 16 = .ok (.aload_n 0, 1) := by decide +kernel
theorem dX13_clause_17 : decode cX13_clause 17 = .ok (.getfield 243, 3) := by decide +kernel
theorem dX13_clause_20 : decode cX13_clause 20 = .ok (.iload_n 1, 1) := by decide +kernel
theorem dX13_clause_21 : decode cX13_clause 21 = .ok (.invokestatic 246, 3) := by decide +kernel
theorem dX13_clause_24 : decode cX13_clause 24 = .ok (.ifCond .eq 5, 3) := by decide +kernel
theorem dX13_clause_27 : decode cX13_clause 27 = .ok (.iconst 4, 1) := by decide +kernel
theorem dX13_clause_28 : decode cX13_clause 28 = .ok (.ireturn, 1) := by decide +kernel
theorem dX13_clause_29 : decode cX13_clause 29 = .ok (.aload_n 0, 1) := by decide +kernel
theorem dX13_clause_30 : decode cX13_clause 30 = .ok (.getfield 16, 3) := by decide +kernel
theorem dX13_clause_33 : decode cX13_clause 33 = .ok (.aload_n 0, 1) := by decide +kernel
theorem dX13_clause_34 : decode cX13_clause 34 = .ok (.getfield 142, 3) := by decide +kernel
theorem dX13_clause_37 : decode cX13_clause 37 = .ok (.iaload, 1) := by decide +kernel
theorem dX13_clause_38 : decode cX13_clause 38 = .ok (.istore_n 2, 1) := by decide +kernel
theorem dX13_clause_39 : decode cX13_clause 39 = .ok (.iload_n 2, 1) := by decide +kernel
theorem dX13_clause_40 : decode cX13_clause 40 = .ok (.bipush 24, 2) := by decide +kernel
theorem dX13_clause_42 : decode cX13_clause 42 = .ok (.if_icmp .ne 6, 3) := by decide +kernel
theorem dX13_clause_45 : decode cX13_clause 45 = .ok (.bipush 6, 2) := by decide +kernel
theorem dX13_clause_47 : decode cX13_clause 47 = .ok (.ireturn, 1) := by decide +kernel
theorem dX13_clause_48 : decode cX13_clause 48 = .ok (.iload_n 1, 1) := by decide +kernel
theorem dX13_clause_49 : decode cX13_clause 49 = .ok (.iconst 1, 1) := by decide +kernel
theorem dX13_clause_50 : decode cX13_clause 50 = .ok (.if_icmp .gt 15, 3) := by decide +kernel
theorem dX13_clause_53 : decode cX13_clause 53 = .ok (.aload_n 0, 1) := by decide +kernel
theorem dX13_clause_54 : decode cX13_clause 54 = .ok (.dup, 1) := by decide +kernel
theorem dX13_clause_55 : decode cX13_clause 55 = .ok (.getfield 243, 3) := by decide +kernel
theorem dX13_clause_58 : decode cX13_clause 58 = .ok (.iconst 1, 1) := by decide +kernel
theorem dX13_clause_59 : decode cX13_clause 59 = .ok (.iload_n 1, 1) := by decide +kernel
theorem dX13_clause_60 : decode cX13_clause 60 = .ok (.ishl, 1) := by decide +kernel
theorem dX13_clause_61 : decode cX13_clause 61 = .ok (.ior, 1) := by decide +kernel
theorem dX13_clause_62 : decode cX13_clause 62 = .ok (.putfield 243, 3) := by decide +kernel
theorem dX13_clause_65 : decode cX13_clause 65 = .ok (.aload_n 0, 1) := by decide +kernel
theorem dX13_clause_66 : decode cX13_clause 66 = .ok (.iload_n 1, 1) := by decide +kernel
theorem dX13_clause_67 : decode cX13_clause 67 = .ok (.putfield 174, 3) := by decide +kernel
theorem dX13_clause_70 : decode cX13_clause 70 = .ok (.aload_n 0, 1) := by decide +kernel
theorem dX13_clause_71 : decode cX13_clause 71 = .ok (.invokevirtual 168, 3) := by decide +kernel
theorem dX13_clause_74 : decode cX13_clause 74 = .ok (.aload_n 0, 1) := by decide +kernel
theorem dX13_clause_75 : decode cX13_clause 75 = .ok (.getfield 142, 3) := by decide +kernel
theorem dX13_clause_78 : decode cX13_clause 78 = .ok (.iconst 1, 1) := by decide +kernel
theorem dX13_clause_79 : decode cX13_clause 79 = .ok (.iadd, 1) := by decide +kernel
theorem dX13_clause_80 : decode cX13_clause 80 = .ok (.iconst 4, 1) := by decide +kernel
theorem dX13_clause_81 : decode cX13_clause 81 = .ok (.iload_n 2, 1) := by decide +kernel
theorem dX13_clause_82 : decode cX13_clause 82 = .ok (.imul, 1) := by decide +kernel
theorem dX13_clause_83 : decode cX13_clause 83 = .ok (.iadd, 1) := by decide +kernel
theorem dX13_clause_84 : decode cX13_clause 84 = .ok (.istore_n 3, 1) := by decide +kernel
theorem dX13_clause_85 : decode cX13_clause 85 = .ok (.aload_n 0, 1) := by decide +kernel
theorem dX13_clause_86 : decode cX13_clause 86 = .ok (.getfield 16, 3) := by decide +kernel
theorem dX13_clause_89 : decode cX13_clause 89 = .ok (.iload_n 3, 1) := by decide +kernel
theorem dX13_clause_90 : decode cX13_clause 90 = .ok (.iload_n 1, 1) := by decide +kernel
theorem dX13_clause_91 : decode cX13_clause 91 = .ok (.iastore, 1) := by decide +kernel
theorem dX13_clause_92 : decode cX13_clause 92 = .ok (.aload_n 0, 1) := by decide +kernel
theorem dX13_clause_93 : decode cX13_clause 93 = .ok (.iload_n 1, 1) := by decide +kernel
theorem dX13_clause_94 : decode cX13_clause 94 = .ok (.iload_n 3, 1) := by decide +kernel
theorem dX13_clause_95 : decode cX13_clause 95 = .ok (.invokevirtual 250, 3) := by decide +kernel
theorem dX13_clause_98 : decode cX13_clause 98 = .ok (.istore 4, 2) := by decide +kernel
theorem dX13_clause_100 : decode cX13_clause 100 = .ok (.iload 4, 2) := by decide +kernel
theorem dX13_clause_102 : decode cX13_clause 102 = .ok (.ifCond .eq 6, 3) := by decide +kernel
theorem dX13_clause_105 : decode cX13_clause 105 = .ok (.iload 4, 2) := by decide +kernel
theorem dX13_clause_107 : decode cX13_clause 107 = .ok (.ireturn, 1) := by decide +kernel
theorem dX13_clause_108 : decode cX13_clause 108 = .ok (.aload_n 0, 1) := by decide +kernel
theorem dX13_clause_109 : decode cX13_clause 109 = .ok (.getfield 16, 3) := by decide +kernel
theorem dX13_clause_112 : decode cX13_clause 112 = .ok (.aload_n 0, 1) := by decide +kernel
theorem dX13_clause_113 : decode cX13_clause 113 = .ok (.getfield 142, 3) := by decide +kernel
theorem dX13_clause_116 : decode cX13_clause 116 = .ok (.dup2, 1) := by decide +kernel
theorem dX13_clause_117 : decode cX13_clause 117 = .ok (.iaload, 1) := by decide +kernel
theorem dX13_clause_118 : decode cX13_clause 118 = .ok (.iconst 1, 1) := by decide +kernel
theorem dX13_clause_119 : decode cX13_clause 119 = .ok (.iadd, 1) := by decide +kernel
theorem dX13_clause_120 : decode cX13_clause 120 = .ok (.iastore, 1) := by decide +kernel
theorem dX13_clause_121 : decode cX13_clause 121 = .ok (.aload_n 0, 1) := by decide +kernel
theorem dX13_clause_122 : decode cX13_clause 122 = .ok (.getfield 104, 3) := by decide +kernel
theorem dX13_clause_125 : decode cX13_clause 125 = .ok (.bipush 59, 2) := by decide +kernel
theorem dX13_clause_127 : decode cX13_clause 127 = .ok (.if_icmp .eq 5, 3) := by decide +kernel
theorem dX13_clause_130 : decode cX13_clause 130 = .ok (.iconst 1, 1) := by decide +kernel
theorem dX13_clause_131 : decode cX13_clause 131 = .ok (.ireturn, 1) := by decide +kernel
theorem dX13_clause_132 : decode cX13_clause 132 = .ok (.aload_n 0, 1) := by decide +kernel
theorem dX13_clause_133 : decode cX13_clause 133 = .ok (.invokevirtual 168, 3) := by decide +kernel
theorem dX13_clause_136 : decode cX13_clause 136 = .ok (.iconst 0, 1) := by decide +kernel
theorem dX13_clause_137 : decode cX13_clause 137 = .ok (.ireturn, 1) := by decide +kernel
theorem BX13_clause_0 {d bc bs : Nat} {h : aH} {n : Nat} {Q : aQ} {ar0 : Nat} {l1 l2 l3 l4 : Option aV} {f1 : List aV} (h2 : h ar0 = cO 13 f1) (k : Rn d 0 0 mX13_sortOf 0 [some (vR (some ar0))] [] h n (fun v h1 n1 => Rn (d + 1) bc bs mX13_clause 4 [some (vR (some ar0)), l1, l2, l3, l4] (v.toList ++ []) h1 n1 Q)) : Rn (d + 1) (bc) (bs) mX13_clause 0 [some (vR (some ar0)), l1, l2, l3, l4] [] h n Q := by
  refine Rn_aload_n dX13_clause_0 rfl rfl rfl ?_
  exact Rn_callV (ci := 13) (avs := []) (st := []) (bc1 := 0) (bs1 := 0) (bc2 := bc) (bs2 := bs) fx_X13_sortOf dX13_clause_1 wd_1513 wd_1515 wd_50 rfl h2 rfl (Nat.le_of_ble_eq_true rfl) (Nat.le_of_ble_eq_true rfl) (by omega) (by omega) (ls1 := [some (vR (some ar0))]) rfl k
theorem BX13_clause_4 {d bc bs : Nat} {h : aH} {n : Nat} {Q : aQ} {r0 : Option Nat} {l1 l2 l3 l4 : Option aV} {s0 : Int} (kt : 0 ≤ s0 → Rn d bc bs mX13_clause 11 [some (vR r0), some (vI s0), l2, l3, l4] [] h n Q) (kf : s0 < 0 → Rn d bc bs mX13_clause 9 [some (vR r0), some (vI s0), l2, l3, l4] [] h n Q) : Rn d (bc) (bs) mX13_clause 4 [some (vR r0), l1, l2, l3, l4] [vI s0] h n Q := by
  refine Rn_istore_n dX13_clause_4 rfl (Nat.le_of_ble_eq_true rfl) rfl rfl ?_
  refine Rn_iload_n dX13_clause_5 rfl rfl ?_
  refine Rn_ifge (tgt := 11) dX13_clause_6 rfl ?_ ?_
  · exact kt
  · exact kf
theorem BX13_clause_9 {d bc bs : Nat} {h : aH} {n : Nat} {Q : aQ} {r0 : Option Nat} {x1 : Int} {l2 l3 l4 : Option aV} (k : Q (some (vI 1)) h n) : Rn d (bc) (bs) mX13_clause 9 [some (vR r0), some (vI x1), l2, l3, l4] [] h n Q := by
  refine Rn_iconst dX13_clause_9 rfl ?_
  exact Rn_ireturn rfl dX13_clause_10 k
theorem BX13_clause_11 {d bc bs : Nat} {h : aH} {n : Nat} {Q : aQ} {r0 : Option Nat} {x1 : Int} {l2 l3 l4 : Option aV} (kt : 1 < x1 → Rn d bc bs mX13_clause 29 [some (vR r0), some (vI x1), l2, l3, l4] [] h n Q) (kf : x1 ≤ 1 → Rn d bc bs mX13_clause 16 [some (vR r0), some (vI x1), l2, l3, l4] [] h n Q) : Rn d (bc) (bs) mX13_clause 11 [some (vR r0), some (vI x1), l2, l3, l4] [] h n Q := by
  refine Rn_iload_n dX13_clause_11 rfl rfl ?_
  refine Rn_iconst dX13_clause_12 rfl ?_
  refine Rn_icmpgt (tgt := 29) dX13_clause_13 rfl ?_ ?_
  · exact kt
  · exact kf
theorem BX13_clause_16 {d bc bs : Nat} {h : aH} {n : Nat} {Q : aQ} {ar0 : Nat} {x1 v3 : Int} {l2 l3 l4 : Option aV} {f1 : List aV} (h2 : h ar0 = cO 13 f1) (g4 : f1[19]? = some (vI v3)) (k : Rn d 0 0 mX13_has 0 [some (vI v3), some (vI x1)] [] h n (fun v h1 n1 => Rn (d + 1) bc bs mX13_clause 24 [some (vR (some ar0)), some (vI x1), l2, l3, l4] (v.toList ++ []) h1 n1 Q)) : Rn (d + 1) (bc) (bs) mX13_clause 16 [some (vR (some ar0)), some (vI x1), l2, l3, l4] [] h n Q := by
  refine Rn_aload_n dX13_clause_16 rfl rfl rfl ?_
  refine Rn_getfield (ci := 13) (k := 19) dX13_clause_17 rfl in_13 (Nat.le_of_ble_eq_true rfl) wd_1371 rfl h2 g4 ?_
  refine Rn_iload_n dX13_clause_20 rfl rfl ?_
  exact Rn_callS (avs := [vI v3, vI x1]) (st := []) (bc1 := 0) (bs1 := 0) (bc2 := bc) (bs2 := bs) fx_X13_has dX13_clause_21 (Or.inl wd_1540) wd_1541 rfl (Nat.le_of_ble_eq_true rfl) (Nat.le_of_ble_eq_true rfl) (by omega) (by omega) (ls1 := [some (vI v3), some (vI x1)]) rfl k
theorem BX13_clause_24 {d bc bs : Nat} {h : aH} {n : Nat} {Q : aQ} {r0 : Option Nat} {x1 s0 : Int} {l2 l3 l4 : Option aV} (kt : s0 = 0 → Rn d bc bs mX13_clause 29 [some (vR r0), some (vI x1), l2, l3, l4] [] h n Q) (kf : s0 ≠ 0 → Rn d bc bs mX13_clause 27 [some (vR r0), some (vI x1), l2, l3, l4] [] h n Q) : Rn d (bc) (bs) mX13_clause 24 [some (vR r0), some (vI x1), l2, l3, l4] [vI s0] h n Q := by
  refine Rn_ifeq (tgt := 29) dX13_clause_24 rfl ?_ ?_
  · exact kt
  · exact kf
theorem BX13_clause_27 {d bc bs : Nat} {h : aH} {n : Nat} {Q : aQ} {r0 : Option Nat} {x1 : Int} {l2 l3 l4 : Option aV} (k : Q (some (vI 4)) h n) : Rn d (bc) (bs) mX13_clause 27 [some (vR r0), some (vI x1), l2, l3, l4] [] h n Q := by
  refine Rn_iconst dX13_clause_27 rfl ?_
  exact Rn_ireturn rfl dX13_clause_28 k
theorem BX13_clause_29 {d bc bs : Nat} {h : aH} {n : Nat} {Q : aQ} {ar0 at3 : Nat} {x1 v5 v9 : Int} {l2 l3 l4 : Option aV} {f1 : List aV} {w7 : List Int} (h2 : h ar0 = cO 13 f1) (g4 : f1[2]? = some (vR (some at3))) (g6 : f1[12]? = some (vI v5)) (h8 : h at3 = cI w7) (i10 : 0 ≤ v5) (g11 : w7[(v5 : Int).toNat]? = some v9) (kt : v9 ≠ 24 → Rn d bc bs mX13_clause 48 [some (vR (some ar0)), some (vI x1), some (vI v9), l3, l4] [] h n Q) (kf : v9 = 24 → Rn d bc bs mX13_clause 45 [some (vR (some ar0)), some (vI x1), some (vI v9), l3, l4] [] h n Q) : Rn d (bc) (bs) mX13_clause 29 [some (vR (some ar0)), some (vI x1), l2, l3, l4] [] h n Q := by
  refine Rn_aload_n dX13_clause_29 rfl rfl rfl ?_
  refine Rn_getfield (ci := 13) (k := 2) dX13_clause_30 rfl in_13 (Nat.le_of_ble_eq_true rfl) wd_1354 rfl h2 g4 ?_
  refine Rn_aload_n dX13_clause_33 rfl rfl rfl ?_
  refine Rn_getfield (ci := 13) (k := 12) dX13_clause_34 rfl in_13 (Nat.le_of_ble_eq_true rfl) wd_1364 rfl h2 g6 ?_
  refine Rn_iaload dX13_clause_37 h8 i10 g11 ?_
  refine Rn_istore_n dX13_clause_38 rfl (Nat.le_of_ble_eq_true rfl) rfl rfl ?_
  refine Rn_iload_n dX13_clause_39 rfl rfl ?_
  refine Rn_bipush dX13_clause_40 rfl ?_
  refine Rn_icmpne (tgt := 48) dX13_clause_42 rfl ?_ ?_
  · exact kt
  · exact kf
theorem BX13_clause_45 {d bc bs : Nat} {h : aH} {n : Nat} {Q : aQ} {r0 : Option Nat} {x1 x2 : Int} {l3 l4 : Option aV} (k : Q (some (vI 6)) h n) : Rn d (bc) (bs) mX13_clause 45 [some (vR r0), some (vI x1), some (vI x2), l3, l4] [] h n Q := by
  refine Rn_bipush dX13_clause_45 rfl ?_
  exact Rn_ireturn rfl dX13_clause_47 k
theorem BX13_clause_48 {d bc bs : Nat} {h : aH} {n : Nat} {Q : aQ} {r0 : Option Nat} {x1 x2 : Int} {l3 l4 : Option aV} (kt : 1 < x1 → Rn d bc bs mX13_clause 65 [some (vR r0), some (vI x1), some (vI x2), l3, l4] [] h n Q) (kf : x1 ≤ 1 → Rn d bc bs mX13_clause 53 [some (vR r0), some (vI x1), some (vI x2), l3, l4] [] h n Q) : Rn d (bc) (bs) mX13_clause 48 [some (vR r0), some (vI x1), some (vI x2), l3, l4] [] h n Q := by
  refine Rn_iload_n dX13_clause_48 rfl rfl ?_
  refine Rn_iconst dX13_clause_49 rfl ?_
  refine Rn_icmpgt (tgt := 65) dX13_clause_50 rfl ?_ ?_
  · exact kt
  · exact kf
theorem BX13_clause_53 {d bc bs : Nat} {h : aH} {n : Nat} {Q : aQ} {ar0 : Nat} {x1 x2 v3 : Int} {l3 l4 : Option aV} {f1 : List aV} (h2 : h ar0 = cO 13 f1) (g4 : f1[19]? = some (vI v3)) (m5 : 19 < f1.length) (k : Rn d bc bs mX13_clause 65 [some (vR (some ar0)), some (vI x1), some (vI x2), l3, l4] [] (up h ar0 (cO 13 (f1.set 19 (vI (or32 v3 (shl32 1 x1)))))) n Q) : Rn d (bc) (bs) mX13_clause 53 [some (vR (some ar0)), some (vI x1), some (vI x2), l3, l4] [] h n Q := by
  refine Rn_aload_n dX13_clause_53 rfl rfl rfl ?_
  refine Rn_dup dX13_clause_54 rfl ?_
  refine Rn_getfield (ci := 13) (k := 19) dX13_clause_55 rfl in_13 (Nat.le_of_ble_eq_true rfl) wd_1371 rfl h2 g4 ?_
  refine Rn_iconst dX13_clause_58 rfl ?_
  refine Rn_iload_n dX13_clause_59 rfl rfl ?_
  refine Rn_ishl dX13_clause_60 ?_
  refine Rn_ior dX13_clause_61 ?_
  refine Rn_putfield (ci := 13) (k := 19) dX13_clause_62 rfl in_13 tyX13_ok nmX13 (Nat.le_of_ble_eq_true rfl) wd_1371 rfl (Or.inl rfl) trivial m5 h2 ?_
  exact k
theorem BX13_clause_65 {d bc bs : Nat} {h : aH} {n : Nat} {Q : aQ} {ar0 : Nat} {x1 x2 : Int} {l3 l4 : Option aV} {f1 : List aV} (h2 : h ar0 = cO 13 f1) (m3 : 14 < f1.length) (k : Rn d bc bs mX13_clause 70 [some (vR (some ar0)), some (vI x1), some (vI x2), l3, l4] [] (up h ar0 (cO 13 (f1.set 14 (vI x1)))) n Q) : Rn d (bc) (bs) mX13_clause 65 [some (vR (some ar0)), some (vI x1), some (vI x2), l3, l4] [] h n Q := by
  refine Rn_aload_n dX13_clause_65 rfl rfl rfl ?_
  refine Rn_iload_n dX13_clause_66 rfl rfl ?_
  refine Rn_putfield (ci := 13) (k := 14) dX13_clause_67 rfl in_13 tyX13_ok nmX13 (Nat.le_of_ble_eq_true rfl) wd_1366 rfl (Or.inl rfl) trivial m3 h2 ?_
  exact k
theorem BX13_clause_70 {d bc bs : Nat} {h : aH} {n : Nat} {Q : aQ} {ar0 : Nat} {x1 x2 : Int} {l3 l4 : Option aV} {f1 : List aV} (h2 : h ar0 = cO 13 f1) (k : Rn d 0 0 mX13_nextToken 0 [some (vR (some ar0)), none] [] h n (fun v h1 n1 => Rn (d + 1) bc bs mX13_clause 74 [some (vR (some ar0)), some (vI x1), some (vI x2), l3, l4] (v.toList ++ []) h1 n1 Q)) : Rn (d + 1) (bc) (bs) mX13_clause 70 [some (vR (some ar0)), some (vI x1), some (vI x2), l3, l4] [] h n Q := by
  refine Rn_aload_n dX13_clause_70 rfl rfl rfl ?_
  exact Rn_callV (ci := 13) (avs := []) (st := []) (bc1 := 0) (bs1 := 0) (bc2 := bc) (bs2 := bs) fx_X13_nextToken dX13_clause_71 wd_1490 wd_1492 wd_47 rfl h2 rfl (Nat.le_of_ble_eq_true rfl) (Nat.le_of_ble_eq_true rfl) (by omega) (by omega) (ls1 := [some (vR (some ar0)), none]) rfl k
theorem BX13_clause_74 {d bc bs : Nat} {h : aH} {n : Nat} {Q : aQ} {ar0 at8 : Nat} {x1 x2 v3 : Int} {l3 l4 : Option aV} {f1 : List aV} {w10 : List Int} (h2 : h ar0 = cO 13 f1) (g4 : f1[12]? = some (vI v3)) (b5 : -2147483648 ≤ v3 + 1 ∧ v3 + 1 < 2147483648) (b6 : -2147483648 ≤ 4 * x2 ∧ 4 * x2 < 2147483648) (b7 : -2147483648 ≤ (v3 + 1) + (4 * x2) ∧ (v3 + 1) + (4 * x2) < 2147483648) (g9 : f1[2]? = some (vR (some at8))) (h11 : h at8 = cI w10) (i12 : 0 ≤ (v3 + 1) + (4 * x2)) (j13 : (v3 + 1) + (4 * x2) < w10.length) (z14 : at8 ≠ 0) (k : Rn d bc bs mX13_clause 92 [some (vR (some ar0)), some (vI x1), some (vI x2), some (vI ((v3 + 1) + (4 * x2))), l4] [] (up h at8 (cI (w10.set ((v3 + 1) + (4 * x2) : Int).toNat x1))) n Q) : Rn d (bc) (bs) mX13_clause 74 [some (vR (some ar0)), some (vI x1), some (vI x2), l3, l4] [] h n Q := by
  refine Rn_aload_n dX13_clause_74 rfl rfl rfl ?_
  refine Rn_getfield (ci := 13) (k := 12) dX13_clause_75 rfl in_13 (Nat.le_of_ble_eq_true rfl) wd_1364 rfl h2 g4 ?_
  refine Rn_iconst dX13_clause_78 rfl ?_
  refine Rn_iadd dX13_clause_79 ?_
  rw [w32_id b5.1 b5.2]
  refine Rn_iconst dX13_clause_80 rfl ?_
  refine Rn_iload_n dX13_clause_81 rfl rfl ?_
  refine Rn_imul dX13_clause_82 ?_
  rw [w32_id b6.1 b6.2]
  refine Rn_iadd dX13_clause_83 ?_
  rw [w32_id b7.1 b7.2]
  refine Rn_istore_n dX13_clause_84 rfl (Nat.le_of_ble_eq_true rfl) rfl rfl ?_
  refine Rn_aload_n dX13_clause_85 rfl rfl rfl ?_
  refine Rn_getfield (ci := 13) (k := 2) dX13_clause_86 rfl in_13 (Nat.le_of_ble_eq_true rfl) wd_1354 rfl h2 g9 ?_
  refine Rn_iload_n dX13_clause_89 rfl rfl ?_
  refine Rn_iload_n dX13_clause_90 rfl rfl ?_
  refine Rn_iastore dX13_clause_91 z14 h11 i12 j13 ?_
  exact k
theorem BX13_clause_92 {d bc bs : Nat} {h : aH} {n : Nat} {Q : aQ} {ar0 : Nat} {x1 x2 x3 : Int} {l4 : Option aV} {f1 : List aV} (h2 : h ar0 = cO 13 f1) (k : Rn d 0 0 mX13_body 0 [some (vR (some ar0)), some (vI x1), some (vI x3), none] [] h n (fun v h1 n1 => Rn (d + 1) bc bs mX13_clause 98 [some (vR (some ar0)), some (vI x1), some (vI x2), some (vI x3), l4] (v.toList ++ []) h1 n1 Q)) : Rn (d + 1) (bc) (bs) mX13_clause 92 [some (vR (some ar0)), some (vI x1), some (vI x2), some (vI x3), l4] [] h n Q := by
  refine Rn_aload_n dX13_clause_92 rfl rfl rfl ?_
  refine Rn_iload_n dX13_clause_93 rfl rfl ?_
  refine Rn_iload_n dX13_clause_94 rfl rfl ?_
  exact Rn_callV (ci := 13) (avs := [vI x1, vI x3]) (st := []) (bc1 := 0) (bs1 := 0) (bc2 := bc) (bs2 := bs) fx_X13_body dX13_clause_95 wd_1543 wd_1545 wd_53 rfl h2 rfl (Nat.le_of_ble_eq_true rfl) (Nat.le_of_ble_eq_true rfl) (by omega) (by omega) (ls1 := [some (vR (some ar0)), some (vI x1), some (vI x3), none]) rfl k
theorem BX13_clause_98 {d bc bs : Nat} {h : aH} {n : Nat} {Q : aQ} {r0 : Option Nat} {x1 x2 x3 s0 : Int} {l4 : Option aV} (kt : s0 = 0 → Rn d bc bs mX13_clause 108 [some (vR r0), some (vI x1), some (vI x2), some (vI x3), some (vI s0)] [] h n Q) (kf : s0 ≠ 0 → Rn d bc bs mX13_clause 105 [some (vR r0), some (vI x1), some (vI x2), some (vI x3), some (vI s0)] [] h n Q) : Rn d (bc) (bs) mX13_clause 98 [some (vR r0), some (vI x1), some (vI x2), some (vI x3), l4] [vI s0] h n Q := by
  refine Rn_istore dX13_clause_98 (Nat.le_of_ble_eq_true rfl) rfl rfl ?_
  refine Rn_iload dX13_clause_100 rfl ?_
  refine Rn_ifeq (tgt := 108) dX13_clause_102 rfl ?_ ?_
  · exact kt
  · exact kf
theorem BX13_clause_105 {d bc bs : Nat} {h : aH} {n : Nat} {Q : aQ} {r0 : Option Nat} {x1 x2 x3 x4 : Int} (k : Q (some (vI x4)) h n) : Rn d (bc) (bs) mX13_clause 105 [some (vR r0), some (vI x1), some (vI x2), some (vI x3), some (vI x4)] [] h n Q := by
  refine Rn_iload dX13_clause_105 rfl ?_
  exact Rn_ireturn rfl dX13_clause_107 k
theorem BX13_clause_108 {d bc bs : Nat} {h : aH} {n : Nat} {Q : aQ} {ar0 at3 : Nat} {x1 x2 x3 x4 v5 v9 : Int} {f1 : List aV} {w7 : List Int} (h2 : h ar0 = cO 13 f1) (g4 : f1[2]? = some (vR (some at3))) (g6 : f1[12]? = some (vI v5)) (h8 : h at3 = cI w7) (i10 : 0 ≤ v5) (g11 : w7[(v5 : Int).toNat]? = some v9) (b12 : -2147483648 ≤ v9 + 1 ∧ v9 + 1 < 2147483648) (j13 : v5 < w7.length) (z14 : at3 ≠ 0) (k : Rn d bc bs mX13_clause 121 [some (vR (some ar0)), some (vI x1), some (vI x2), some (vI x3), some (vI x4)] [] (up h at3 (cI (w7.set (v5 : Int).toNat (v9 + 1)))) n Q) : Rn d (bc) (bs) mX13_clause 108 [some (vR (some ar0)), some (vI x1), some (vI x2), some (vI x3), some (vI x4)] [] h n Q := by
  refine Rn_aload_n dX13_clause_108 rfl rfl rfl ?_
  refine Rn_getfield (ci := 13) (k := 2) dX13_clause_109 rfl in_13 (Nat.le_of_ble_eq_true rfl) wd_1354 rfl h2 g4 ?_
  refine Rn_aload_n dX13_clause_112 rfl rfl rfl ?_
  refine Rn_getfield (ci := 13) (k := 12) dX13_clause_113 rfl in_13 (Nat.le_of_ble_eq_true rfl) wd_1364 rfl h2 g6 ?_
  refine Rn_dup2 dX13_clause_116 rfl rfl ?_
  refine Rn_iaload dX13_clause_117 h8 i10 g11 ?_
  refine Rn_iconst dX13_clause_118 rfl ?_
  refine Rn_iadd dX13_clause_119 ?_
  rw [w32_id b12.1 b12.2]
  refine Rn_iastore dX13_clause_120 z14 h8 i10 j13 ?_
  exact k
theorem BX13_clause_121 {d bc bs : Nat} {h : aH} {n : Nat} {Q : aQ} {ar0 : Nat} {x1 x2 x3 x4 v3 : Int} {f1 : List aV} (h2 : h ar0 = cO 13 f1) (g4 : f1[9]? = some (vI v3)) (kt : v3 = 59 → Rn d bc bs mX13_clause 132 [some (vR (some ar0)), some (vI x1), some (vI x2), some (vI x3), some (vI x4)] [] h n Q) (kf : v3 ≠ 59 → Rn d bc bs mX13_clause 130 [some (vR (some ar0)), some (vI x1), some (vI x2), some (vI x3), some (vI x4)] [] h n Q) : Rn d (bc) (bs) mX13_clause 121 [some (vR (some ar0)), some (vI x1), some (vI x2), some (vI x3), some (vI x4)] [] h n Q := by
  refine Rn_aload_n dX13_clause_121 rfl rfl rfl ?_
  refine Rn_getfield (ci := 13) (k := 9) dX13_clause_122 rfl in_13 (Nat.le_of_ble_eq_true rfl) wd_1361 rfl h2 g4 ?_
  refine Rn_bipush dX13_clause_125 rfl ?_
  refine Rn_icmpeq (tgt := 132) dX13_clause_127 rfl ?_ ?_
  · exact kt
  · exact kf
theorem BX13_clause_130 {d bc bs : Nat} {h : aH} {n : Nat} {Q : aQ} {r0 : Option Nat} {x1 x2 x3 x4 : Int} (k : Q (some (vI 1)) h n) : Rn d (bc) (bs) mX13_clause 130 [some (vR r0), some (vI x1), some (vI x2), some (vI x3), some (vI x4)] [] h n Q := by
  refine Rn_iconst dX13_clause_130 rfl ?_
  exact Rn_ireturn rfl dX13_clause_131 k
theorem BX13_clause_132 {d bc bs : Nat} {h : aH} {n : Nat} {Q : aQ} {ar0 : Nat} {x1 x2 x3 x4 : Int} {f1 : List aV} (h2 : h ar0 = cO 13 f1) (k : Rn d 0 0 mX13_nextToken 0 [some (vR (some ar0)), none] [] h n (fun v h1 n1 => Rn (d + 1) bc bs mX13_clause 136 [some (vR (some ar0)), some (vI x1), some (vI x2), some (vI x3), some (vI x4)] (v.toList ++ []) h1 n1 Q)) : Rn (d + 1) (bc) (bs) mX13_clause 132 [some (vR (some ar0)), some (vI x1), some (vI x2), some (vI x3), some (vI x4)] [] h n Q := by
  refine Rn_aload_n dX13_clause_132 rfl rfl rfl ?_
  exact Rn_callV (ci := 13) (avs := []) (st := []) (bc1 := 0) (bs1 := 0) (bc2 := bc) (bs2 := bs) fx_X13_nextToken dX13_clause_133 wd_1490 wd_1492 wd_47 rfl h2 rfl (Nat.le_of_ble_eq_true rfl) (Nat.le_of_ble_eq_true rfl) (by omega) (by omega) (ls1 := [some (vR (some ar0)), none]) rfl k
theorem BX13_clause_136 {d bc bs : Nat} {h : aH} {n : Nat} {Q : aQ} {r0 : Option Nat} {x1 x2 x3 x4 : Int} (k : Q (some (vI 0)) h n) : Rn d (bc) (bs) mX13_clause 136 [some (vR r0), some (vI x1), some (vI x2), some (vI x3), some (vI x4)] [] h n Q := by
  refine Rn_iconst dX13_clause_136 rfl ?_
  exact Rn_ireturn rfl dX13_clause_137 k
theorem dX13_readText_0 : decode cX13_readText 0 = .ok (.aload_n 0, 1) := by decide +kernel
theorem dX13_readText_1 : decode cX13_readText 1 = .ok (.sipush 705, 3) := by decide +kernel
theorem dX13_readText_4 : decode cX13_readText 4 = .ok (.aload_n 0, 1) := by decide +kernel
theorem dX13_readText_5 : decode cX13_readText 5 = .ok (.getfield 7, 3) := by decide +kernel
theorem dX13_readText_8 : decode cX13_readText 8 = .ok (.iconst 1, 1) := by decide +kernel
theorem dX13_readText_9 : decode cX13_readText 9 = .ok (.iaload, 1) := by decide +kernel
theorem dX13_readText_10 : decode cX13_readText 10 = .ok (.imul, 1) := by decide +kernel
theorem dX13_readText_11 : decode cX13_readText 11 = .ok (.putfield 142, 3) := by decide +kernel
theorem dX13_readText_14 : decode cX13_readText 14 = .ok (.aload_n 0, 1) := by decide +kernel
theorem dX13_readText_15 : decode cX13_readText 15 = .ok (.getfield 16, 3) := by decide +kernel
theorem dX13_readText_18 : decode cX13_readText 18 = .ok (.aload_n 0, 1) := by decide +kernel
theorem dX13_readText_19 : decode cX13_readText 19 = .ok (.getfield 142, 3) := by decide +kernel
theorem dX13_readText_22 : decode cX13_readText 22 = .ok (.iconst 0, 1) := by decide +kernel
theorem dX13_readText_23 : decode cX13_readText 23 = .ok (.iastore, 1) := by decide +kernel
theorem dX13_readText_24 : decode cX13_readText 24 = .ok (.aload_n 0, 1) := by decide +kernel
theorem dX13_readText_25 : decode cX13_readText 25 = .ok (.iconst 0, 1) := by decide +kernel
theorem dX13_readText_26 : decode cX13_readText 26 = .ok (.putfield 145, 3) := by decide +kernel
theorem dX13_readText_29 : decode cX13_readText 29 = .ok (.aload_n 0, 1) := by decide +kernel
theorem dX13_readText_30 : decode cX13_readText 30 = .ok (.iconst 0, 1) := by decide +kernel
theorem dX13_readText_31 : decode cX13_readText 31 = .ok (.putfield 243, 3) := by decide +kernel
theorem dX13_readText_34 : decode cX13_readText 34 = .ok (.aload_n 0, 1) := by decide +kernel
theorem dX13_readText_35 : decode cX13_readText 35 = .ok (.iconst 0, 1) := by decide +kernel
theorem dX13_readText_36 : decode cX13_readText 36 = .ok (.putfield 94, 3) := by decide +kernel
theorem dX13_readText_39 : decode cX13_readText 39 = .ok (.aload_n 0, 1) := by decide +kernel
theorem dX13_readText_40 : decode cX13_readText 40 = .ok (.invokevirtual 168, 3) := by decide +kernel
theorem dX13_readText_43 : decode cX13_readText 43 = .ok (.aload_n 0, 1) := by decide +kernel
theorem dX13_readText_44 : decode cX13_readText 44 = .ok (.getfield 104, 3) := by decide +kernel
theorem dX13_readText_47 : decode cX13_readText 47 = .ok (.ifCond .eq 17, 3) := by decide +kernel
theorem dX13_readText_50 : decode cX13_readText 50 = .ok (.aload_n 0, 1) := by decide +kernel
theorem dX13_readText_51 : decode cX13_readText 51 = .ok (.invokevirtual 253, 3) := by decide +kernel
theorem dX13_readText_54 : decode cX13_readText 54 = .ok (.istore_n 1, 1) := by decide +kernel
theorem dX13_readText_55 : decode cX13_readText 55 = .ok (.iload_n 1, 1) := by decide +kernel
theorem dX13_readText_56 : decode cX13_readText 56 = .ok (.ifCond .eq 5, 3) := by decide +kernel
theorem dX13_readText_59 : decode cX13_readText 59 = .ok (.iload_n 1, 1) := by decide +kernel
theorem dX13_readText_60 : decode cX13_readText 60 = .ok (.ireturn, 1) := by decide +kernel
theorem dX13_readText_61 : decode cX13_readText 61 = .ok (.goto (-18), 3) := by decide +kernel
theorem dX13_readText_64 : decode cX13_readText 64 = .ok (.iconst 0, 1) := by decide +kernel
theorem dX13_readText_65 : decode cX13_readText 65 = .ok (.ireturn, 1) := by decide +kernel
theorem BX13_readText_0 {d bc bs : Nat} {h : aH} {n : Nat} {Q : aQ} {ar0 at3 : Nat} {l1 : Option aV} {f1 : List aV} {w5 : List Int} {v7 : Int} (h2 : h ar0 = cO 13 f1) (g4 : f1[0]? = some (vR (some at3))) (h6 : h at3 = cI w5) (g8 : w5[(1 : Int).toNat]? = some v7) (b9 : -2147483648 ≤ 705 * v7 ∧ 705 * v7 < 2147483648) (m10 : 12 < f1.length) (k : Rn d bc bs mX13_readText 14 [some (vR (some ar0)), l1] [] (up h ar0 (cO 13 (f1.set 12 (vI (705 * v7))))) n Q) : Rn d (bc) (bs) mX13_readText 0 [some (vR (some ar0)), l1] [] h n Q := by
  refine Rn_aload_n dX13_readText_0 rfl rfl rfl ?_
  refine Rn_sipush dX13_readText_1 rfl ?_
  refine Rn_aload_n dX13_readText_4 rfl rfl rfl ?_
  refine Rn_getfield (ci := 13) (k := 0) dX13_readText_5 rfl in_13 (Nat.le_of_ble_eq_true rfl) wd_1352 rfl h2 g4 ?_
  refine Rn_iconst dX13_readText_8 rfl ?_
  refine Rn_iaload dX13_readText_9 h6 (by decide) g8 ?_
  refine Rn_imul dX13_readText_10 ?_
  rw [w32_id b9.1 b9.2]
  refine Rn_putfield (ci := 13) (k := 12) dX13_readText_11 rfl in_13 tyX13_ok nmX13 (Nat.le_of_ble_eq_true rfl) wd_1364 rfl (Or.inl rfl) trivial m10 h2 ?_
  exact k
theorem BX13_readText_14 {d bc bs : Nat} {h : aH} {n : Nat} {Q : aQ} {ar0 at3 : Nat} {l1 : Option aV} {f1 : List aV} {v5 : Int} {w7 : List Int} (h2 : h ar0 = cO 13 f1) (g4 : f1[2]? = some (vR (some at3))) (g6 : f1[12]? = some (vI v5)) (h8 : h at3 = cI w7) (i9 : 0 ≤ v5) (j10 : v5 < w7.length) (z11 : at3 ≠ 0) (k : Rn d bc bs mX13_readText 24 [some (vR (some ar0)), l1] [] (up h at3 (cI (w7.set (v5 : Int).toNat 0))) n Q) : Rn d (bc) (bs) mX13_readText 14 [some (vR (some ar0)), l1] [] h n Q := by
  refine Rn_aload_n dX13_readText_14 rfl rfl rfl ?_
  refine Rn_getfield (ci := 13) (k := 2) dX13_readText_15 rfl in_13 (Nat.le_of_ble_eq_true rfl) wd_1354 rfl h2 g4 ?_
  refine Rn_aload_n dX13_readText_18 rfl rfl rfl ?_
  refine Rn_getfield (ci := 13) (k := 12) dX13_readText_19 rfl in_13 (Nat.le_of_ble_eq_true rfl) wd_1364 rfl h2 g6 ?_
  refine Rn_iconst dX13_readText_22 rfl ?_
  refine Rn_iastore dX13_readText_23 z11 h8 i9 j10 ?_
  exact k
theorem BX13_readText_24 {d bc bs : Nat} {h : aH} {n : Nat} {Q : aQ} {ar0 : Nat} {l1 : Option aV} {f1 : List aV} (h2 : h ar0 = cO 13 f1) (m3 : 13 < f1.length) (k : Rn d bc bs mX13_readText 29 [some (vR (some ar0)), l1] [] (up h ar0 (cO 13 (f1.set 13 (vI 0)))) n Q) : Rn d (bc) (bs) mX13_readText 24 [some (vR (some ar0)), l1] [] h n Q := by
  refine Rn_aload_n dX13_readText_24 rfl rfl rfl ?_
  refine Rn_iconst dX13_readText_25 rfl ?_
  refine Rn_putfield (ci := 13) (k := 13) dX13_readText_26 rfl in_13 tyX13_ok nmX13 (Nat.le_of_ble_eq_true rfl) wd_1365 rfl (Or.inl rfl) trivial m3 h2 ?_
  exact k
theorem BX13_readText_29 {d bc bs : Nat} {h : aH} {n : Nat} {Q : aQ} {ar0 : Nat} {l1 : Option aV} {f1 : List aV} (h2 : h ar0 = cO 13 f1) (m3 : 19 < f1.length) (k : Rn d bc bs mX13_readText 34 [some (vR (some ar0)), l1] [] (up h ar0 (cO 13 (f1.set 19 (vI 0)))) n Q) : Rn d (bc) (bs) mX13_readText 29 [some (vR (some ar0)), l1] [] h n Q := by
  refine Rn_aload_n dX13_readText_29 rfl rfl rfl ?_
  refine Rn_iconst dX13_readText_30 rfl ?_
  refine Rn_putfield (ci := 13) (k := 19) dX13_readText_31 rfl in_13 tyX13_ok nmX13 (Nat.le_of_ble_eq_true rfl) wd_1371 rfl (Or.inl rfl) trivial m3 h2 ?_
  exact k
theorem BX13_readText_34 {d bc bs : Nat} {h : aH} {n : Nat} {Q : aQ} {ar0 : Nat} {l1 : Option aV} {f1 : List aV} (h2 : h ar0 = cO 13 f1) (m3 : 7 < f1.length) (k : Rn d bc bs mX13_readText 39 [some (vR (some ar0)), l1] [] (up h ar0 (cO 13 (f1.set 7 (vI 0)))) n Q) : Rn d (bc) (bs) mX13_readText 34 [some (vR (some ar0)), l1] [] h n Q := by
  refine Rn_aload_n dX13_readText_34 rfl rfl rfl ?_
  refine Rn_iconst dX13_readText_35 rfl ?_
  refine Rn_putfield (ci := 13) (k := 7) dX13_readText_36 rfl in_13 tyX13_ok nmX13 (Nat.le_of_ble_eq_true rfl) wd_1359 rfl (Or.inl rfl) trivial m3 h2 ?_
  exact k
theorem BX13_readText_39 {d bc bs : Nat} {h : aH} {n : Nat} {Q : aQ} {ar0 : Nat} {l1 : Option aV} {f1 : List aV} (h2 : h ar0 = cO 13 f1) (k : Rn d 0 0 mX13_nextToken 0 [some (vR (some ar0)), none] [] h n (fun v h1 n1 => Rn (d + 1) bc bs mX13_readText 43 [some (vR (some ar0)), l1] (v.toList ++ []) h1 n1 Q)) : Rn (d + 1) (bc) (bs) mX13_readText 39 [some (vR (some ar0)), l1] [] h n Q := by
  refine Rn_aload_n dX13_readText_39 rfl rfl rfl ?_
  exact Rn_callV (ci := 13) (avs := []) (st := []) (bc1 := 0) (bs1 := 0) (bc2 := bc) (bs2 := bs) fx_X13_nextToken dX13_readText_40 wd_1490 wd_1492 wd_47 rfl h2 rfl (Nat.le_of_ble_eq_true rfl) (Nat.le_of_ble_eq_true rfl) (by omega) (by omega) (ls1 := [some (vR (some ar0)), none]) rfl k
theorem BX13_readText_43 {d bc bs : Nat} {h : aH} {n : Nat} {Q : aQ} {ar0 : Nat} {l1 : Option aV} {f1 : List aV} {v3 : Int} (h2 : h ar0 = cO 13 f1) (g4 : f1[9]? = some (vI v3)) (kt : v3 = 0 → Rn d bc bs mX13_readText 64 [some (vR (some ar0)), l1] [] h n Q) (kf : v3 ≠ 0 → Rn d bc bs mX13_readText 50 [some (vR (some ar0)), l1] [] h n Q) : Rn d (bc) (bs) mX13_readText 43 [some (vR (some ar0)), l1] [] h n Q := by
  refine Rn_aload_n dX13_readText_43 rfl rfl rfl ?_
  refine Rn_getfield (ci := 13) (k := 9) dX13_readText_44 rfl in_13 (Nat.le_of_ble_eq_true rfl) wd_1361 rfl h2 g4 ?_
  refine Rn_ifeq (tgt := 64) dX13_readText_47 rfl ?_ ?_
  · exact kt
  · exact kf
theorem BX13_readText_50 {d bc bs : Nat} {h : aH} {n : Nat} {Q : aQ} {ar0 : Nat} {l1 : Option aV} {f1 : List aV} (h2 : h ar0 = cO 13 f1) (k : Rn d 0 0 mX13_clause 0 [some (vR (some ar0)), none, none, none, none] [] h n (fun v h1 n1 => Rn (d + 1) bc bs mX13_readText 54 [some (vR (some ar0)), l1] (v.toList ++ []) h1 n1 Q)) : Rn (d + 1) (bc) (bs) mX13_readText 50 [some (vR (some ar0)), l1] [] h n Q := by
  refine Rn_aload_n dX13_readText_50 rfl rfl rfl ?_
  exact Rn_callV (ci := 13) (avs := []) (st := []) (bc1 := 0) (bs1 := 0) (bc2 := bc) (bs2 := bs) fx_X13_clause dX13_readText_51 wd_1509 wd_1511 wd_49 rfl h2 rfl (Nat.le_of_ble_eq_true rfl) (Nat.le_of_ble_eq_true rfl) (by omega) (by omega) (ls1 := [some (vR (some ar0)), none, none, none, none]) rfl k
theorem BX13_readText_54 {d bc bs : Nat} {h : aH} {n : Nat} {Q : aQ} {r0 : Option Nat} {l1 : Option aV} {s0 : Int} (kt : s0 = 0 → Rn d bc bs mX13_readText 61 [some (vR r0), some (vI s0)] [] h n Q) (kf : s0 ≠ 0 → Rn d bc bs mX13_readText 59 [some (vR r0), some (vI s0)] [] h n Q) : Rn d (bc) (bs) mX13_readText 54 [some (vR r0), l1] [vI s0] h n Q := by
  refine Rn_istore_n dX13_readText_54 rfl (Nat.le_of_ble_eq_true rfl) rfl rfl ?_
  refine Rn_iload_n dX13_readText_55 rfl rfl ?_
  refine Rn_ifeq (tgt := 61) dX13_readText_56 rfl ?_ ?_
  · exact kt
  · exact kf
theorem BX13_readText_59 {d bc bs : Nat} {h : aH} {n : Nat} {Q : aQ} {r0 : Option Nat} {x1 : Int} (k : Q (some (vI x1)) h n) : Rn d (bc) (bs) mX13_readText 59 [some (vR r0), some (vI x1)] [] h n Q := by
  refine Rn_iload_n dX13_readText_59 rfl rfl ?_
  exact Rn_ireturn rfl dX13_readText_60 k
theorem BX13_readText_61 {d bc bs : Nat} {h : aH} {n : Nat} {Q : aQ} {r0 : Option Nat} {x1 : Int} (k : Rn d bc bs mX13_readText 43 [some (vR r0), some (vI x1)] [] h n Q) : Rn d (bc) (bs) mX13_readText 61 [some (vR r0), some (vI x1)] [] h n Q := by
  refine Rn_goto (tgt := 43) dX13_readText_61 rfl ?_
  exact k
theorem BX13_readText_64 {d bc bs : Nat} {h : aH} {n : Nat} {Q : aQ} {r0 : Option Nat} {l1 : Option aV} (k : Q (some (vI 0)) h n) : Rn d (bc) (bs) mX13_readText 64 [some (vR r0), l1] [] h n Q := by
  refine Rn_iconst dX13_readText_64 rfl ?_
  exact Rn_ireturn rfl dX13_readText_65 k
theorem dX13_text_0 : decode cX13_text 0 = .ok (.aload_n 0, 1) := by decide +kernel
theorem dX13_text_1 : decode cX13_text 1 = .ok (.getfield 7, 3) := by decide +kernel
theorem dX13_text_4 : decode cX13_text 4 = .ok (.iconst 1, 1) := by decide +kernel
theorem dX13_text_5 : decode cX13_text 5 = .ok (.iaload, 1) := by decide +kernel
theorem dX13_text_6 : decode cX13_text 6 = .ok (.iconst 4, 1) := by decide +kernel
theorem dX13_text_7 : decode cX13_text 7 = .ok (.if_icmp .ne 5, 3) := by decide +kernel
theorem dX13_text_10 : decode cX13_text 10 = .ok (.iconst (-1), 1) := by decide +kernel
theorem dX13_text_11 : decode cX13_text 11 = .ok (.ireturn, 1) := by decide +kernel
theorem dX13_text_12 : decode cX13_text 12 = .ok (.aload_n 0, 1) := by decide +kernel
theorem dX13_text_13 : decode cX13_text 13 = .ok (.aload_n 0, 1) := by decide +kernel
theorem dX13_text_14 : decode cX13_text 14 = .ok (.invokevirtual 256, 3) := by decide +kernel
theorem dX13_text_17 : decode cX13_text 17 = .ok (.putfield 22, 3) := by decide +kernel
theorem dX13_text_20 : decode cX13_text 20 = .ok (.aload_n 0, 1) := by decide +kernel
theorem dX13_text_21 : decode cX13_text 21 = .ok (.aload_n 0, 1) := by decide +kernel
theorem dX13_text_22 : decode cX13_text 22 = .ok (.getfield 22, 3) := by decide +kernel
theorem dX13_text_25 : decode cX13_text 25 = .ok (.ifCond .ne 7, 3) := by decide +kernel
theorem dX13_text_28 : decode cX13_text 28 = .ok (.iconst (-1), 1) := by decide +kernel
theorem dX13_text_29 : decode cX13_text 29 = .ok (.goto 7, 3) := by decide +kernel
theorem dX13_text_32 : decode cX13_text 32 = .ok (.aload_n 0, 1) := by decide +kernel
theorem dX13_text_33 : decode cX13_text 33 = .ok (.getfield 101, 3) := by decide +kernel
theorem dX13_text_36 : decode cX13_text 36 = .ok (.putfield 26, 3) := by decide +kernel
theorem dX13_text_39 : decode cX13_text 39 = .ok (.aload_n 0, 1) := by decide +kernel
theorem dX13_text_40 : decode cX13_text 40 = .ok (.iconst 0, 1) := by decide +kernel
theorem dX13_text_41 : decode cX13_text 41 = .ok (.putfield 87, 3) := by decide +kernel
theorem dX13_text_44 : decode cX13_text 44 = .ok (.aload_n 0, 1) := by decide +kernel
theorem dX13_text_45 : decode cX13_text 45 = .ok (.getfield 22, 3) := by decide +kernel
theorem dX13_text_48 : decode cX13_text 48 = .ok (.ifCond .eq 5, 3) := by decide +kernel
theorem dX13_text_51 : decode cX13_text 51 = .ok (.iconst (-1), 1) := by decide +kernel
theorem dX13_text_52 : decode cX13_text 52 = .ok (.ireturn, 1) := by decide +kernel
theorem dX13_text_53 : decode cX13_text 53 = .ok (.aload_n 0, 1) := by decide +kernel
theorem dX13_text_54 : decode cX13_text 54 = .ok (.getfield 7, 3) := by decide +kernel
theorem dX13_text_57 : decode cX13_text 57 = .ok (.iconst 1, 1) := by decide +kernel
theorem dX13_text_58 : decode cX13_text 58 = .ok (.dup2, 1) := by decide +kernel
theorem dX13_text_59 : decode cX13_text 59 = .ok (.iaload, 1) := by decide +kernel
theorem dX13_text_60 : decode cX13_text 60 = .ok (.iconst 1, 1) := by decide +kernel
theorem dX13_text_61 : decode cX13_text 61 = .ok (.iadd, 1) := by decide +kernel
theorem dX13_text_62 : decode cX13_text 62 = .ok (.iastore, 1) := by decide +kernel
theorem dX13_text_63 : decode cX13_text 63 = .ok (.aload_n 0, 1) := by decide +kernel
theorem dX13_text_64 : decode cX13_text 64 = .ok (.getfield 7, 3) := by decide +kernel
theorem dX13_text_67 : decode cX13_text 67 = .ok (.iconst 1, 1) := by decide +kernel
theorem dX13_text_68 : decode cX13_text 68 = .ok (.iaload, 1) := by decide +kernel
theorem dX13_text_69 : decode cX13_text 69 = .ok (.iconst 1, 1) := by decide +kernel
theorem dX13_text_70 : decode cX13_text 70 = .ok (.isub, 1) := by decide +kernel
theorem dX13_text_71 : decode cX13_text 71 = .ok (.ireturn, 1) := by decide +kernel
theorem BX13_text_0 {d bc bs : Nat} {h : aH} {n : Nat} {Q : aQ} {ar0 at3 : Nat} {f1 : List aV} {w5 : List Int} {v7 : Int} (h2 : h ar0 = cO 13 f1) (g4 : f1[0]? = some (vR (some at3))) (h6 : h at3 = cI w5) (g8 : w5[(1 : Int).toNat]? = some v7) (kt : v7 ≠ 4 → Rn d bc bs mX13_text 12 [some (vR (some ar0))] [] h n Q) (kf : v7 = 4 → Rn d bc bs mX13_text 10 [some (vR (some ar0))] [] h n Q) : Rn d (bc) (bs) mX13_text 0 [some (vR (some ar0))] [] h n Q := by
  refine Rn_aload_n dX13_text_0 rfl rfl rfl ?_
  refine Rn_getfield (ci := 13) (k := 0) dX13_text_1 rfl in_13 (Nat.le_of_ble_eq_true rfl) wd_1352 rfl h2 g4 ?_
  refine Rn_iconst dX13_text_4 rfl ?_
  refine Rn_iaload dX13_text_5 h6 (by decide) g8 ?_
  refine Rn_iconst dX13_text_6 rfl ?_
  refine Rn_icmpne (tgt := 12) dX13_text_7 rfl ?_ ?_
  · exact kt
  · exact kf
theorem BX13_text_10 {d bc bs : Nat} {h : aH} {n : Nat} {Q : aQ} {r0 : Option Nat} (k : Q (some (vI (-1))) h n) : Rn d (bc) (bs) mX13_text 10 [some (vR r0)] [] h n Q := by
  refine Rn_iconst dX13_text_10 rfl ?_
  exact Rn_ireturn rfl dX13_text_11 k
theorem BX13_text_12 {d bc bs : Nat} {h : aH} {n : Nat} {Q : aQ} {ar0 : Nat} {f1 : List aV} (h2 : h ar0 = cO 13 f1) (k : Rn d 0 0 mX13_readText 0 [some (vR (some ar0)), none] [] h n (fun v h1 n1 => Rn (d + 1) bc bs mX13_text 17 [some (vR (some ar0))] (v.toList ++ [vR (some ar0)]) h1 n1 Q)) : Rn (d + 1) (bc) (bs) mX13_text 12 [some (vR (some ar0))] [] h n Q := by
  refine Rn_aload_n dX13_text_12 rfl rfl rfl ?_
  refine Rn_aload_n dX13_text_13 rfl rfl rfl ?_
  exact Rn_callV (ci := 13) (avs := []) (st := [vR (some ar0)]) (bc1 := 0) (bs1 := 0) (bc2 := bc) (bs2 := bs) fx_X13_readText dX13_text_14 wd_1486 wd_1488 wd_46 rfl h2 rfl (Nat.le_of_ble_eq_true rfl) (Nat.le_of_ble_eq_true rfl) (by omega) (by omega) (ls1 := [some (vR (some ar0)), none]) rfl k
theorem BX13_text_17 {d bc bs : Nat} {h : aH} {n : Nat} {Q : aQ} {r0 : Option Nat} {aq0 : Nat} {s1 : Int} {f1 : List aV} (h2 : h aq0 = cO 13 f1) (m3 : 5 < f1.length) (k : Rn d bc bs mX13_text 20 [some (vR r0)] [] (up h aq0 (cO 13 (f1.set 5 (vI s1)))) n Q) : Rn d (bc) (bs) mX13_text 17 [some (vR r0)] [vI s1, vR (some aq0)] h n Q := by
  refine Rn_putfield (ci := 13) (k := 5) dX13_text_17 rfl in_13 tyX13_ok nmX13 (Nat.le_of_ble_eq_true rfl) wd_1357 rfl (Or.inl rfl) trivial m3 h2 ?_
  exact k
theorem BX13_text_20 {d bc bs : Nat} {h : aH} {n : Nat} {Q : aQ} {ar0 : Nat} {f1 : List aV} {v3 : Int} (h2 : h ar0 = cO 13 f1) (g4 : f1[5]? = some (vI v3)) (kt : v3 ≠ 0 → Rn d bc bs mX13_text 32 [some (vR (some ar0))] [vR (some ar0)] h n Q) (kf : v3 = 0 → Rn d bc bs mX13_text 28 [some (vR (some ar0))] [vR (some ar0)] h n Q) : Rn d (bc) (bs) mX13_text 20 [some (vR (some ar0))] [] h n Q := by
  refine Rn_aload_n dX13_text_20 rfl rfl rfl ?_
  refine Rn_aload_n dX13_text_21 rfl rfl rfl ?_
  refine Rn_getfield (ci := 13) (k := 5) dX13_text_22 rfl in_13 (Nat.le_of_ble_eq_true rfl) wd_1357 rfl h2 g4 ?_
  refine Rn_ifne (tgt := 32) dX13_text_25 rfl ?_ ?_
  · exact kt
  · exact kf
theorem BX13_text_28 {d bc bs : Nat} {h : aH} {n : Nat} {Q : aQ} {r0 : Option Nat} {aq0 : Nat} {f1 : List aV} (h2 : h aq0 = cO 13 f1) (m3 : 6 < f1.length) (k : Rn d bc bs mX13_text 39 [some (vR r0)] [] (up h aq0 (cO 13 (f1.set 6 (vI (-1))))) n Q) : Rn d (bc) (bs) mX13_text 28 [some (vR r0)] [vR (some aq0)] h n Q := by
  refine Rn_iconst dX13_text_28 rfl ?_
  refine Rn_goto (tgt := 36) dX13_text_29 rfl ?_
  refine Rn_putfield (ci := 13) (k := 6) dX13_text_36 rfl in_13 tyX13_ok nmX13 (Nat.le_of_ble_eq_true rfl) wd_1358 rfl (Or.inl rfl) trivial m3 h2 ?_
  exact k
theorem BX13_text_32 {d bc bs : Nat} {h : aH} {n : Nat} {Q : aQ} {ar0 aq0 : Nat} {f1 f5 : List aV} {v3 : Int} (h2 : h ar0 = cO 13 f1) (g4 : f1[8]? = some (vI v3)) (h6 : h aq0 = cO 13 f5) (m7 : 6 < f5.length) (k : Rn d bc bs mX13_text 39 [some (vR (some ar0))] [] (up h aq0 (cO 13 (f5.set 6 (vI v3)))) n Q) : Rn d (bc) (bs) mX13_text 32 [some (vR (some ar0))] [vR (some aq0)] h n Q := by
  refine Rn_aload_n dX13_text_32 rfl rfl rfl ?_
  refine Rn_getfield (ci := 13) (k := 8) dX13_text_33 rfl in_13 (Nat.le_of_ble_eq_true rfl) wd_1360 rfl h2 g4 ?_
  refine Rn_putfield (ci := 13) (k := 6) dX13_text_36 rfl in_13 tyX13_ok nmX13 (Nat.le_of_ble_eq_true rfl) wd_1358 rfl (Or.inl rfl) trivial m7 h6 ?_
  exact k
theorem BX13_text_39 {d bc bs : Nat} {h : aH} {n : Nat} {Q : aQ} {ar0 : Nat} {f1 : List aV} (h2 : h ar0 = cO 13 f1) (m3 : 4 < f1.length) (k : Rn d bc bs mX13_text 44 [some (vR (some ar0))] [] (up h ar0 (cO 13 (f1.set 4 (vI 0)))) n Q) : Rn d (bc) (bs) mX13_text 39 [some (vR (some ar0))] [] h n Q := by
  refine Rn_aload_n dX13_text_39 rfl rfl rfl ?_
  refine Rn_iconst dX13_text_40 rfl ?_
  refine Rn_putfield (ci := 13) (k := 4) dX13_text_41 rfl in_13 tyX13_ok nmX13 (Nat.le_of_ble_eq_true rfl) wd_1356 rfl (Or.inl rfl) trivial m3 h2 ?_
  exact k
theorem BX13_text_44 {d bc bs : Nat} {h : aH} {n : Nat} {Q : aQ} {ar0 : Nat} {f1 : List aV} {v3 : Int} (h2 : h ar0 = cO 13 f1) (g4 : f1[5]? = some (vI v3)) (kt : v3 = 0 → Rn d bc bs mX13_text 53 [some (vR (some ar0))] [] h n Q) (kf : v3 ≠ 0 → Rn d bc bs mX13_text 51 [some (vR (some ar0))] [] h n Q) : Rn d (bc) (bs) mX13_text 44 [some (vR (some ar0))] [] h n Q := by
  refine Rn_aload_n dX13_text_44 rfl rfl rfl ?_
  refine Rn_getfield (ci := 13) (k := 5) dX13_text_45 rfl in_13 (Nat.le_of_ble_eq_true rfl) wd_1357 rfl h2 g4 ?_
  refine Rn_ifeq (tgt := 53) dX13_text_48 rfl ?_ ?_
  · exact kt
  · exact kf
theorem BX13_text_51 {d bc bs : Nat} {h : aH} {n : Nat} {Q : aQ} {r0 : Option Nat} (k : Q (some (vI (-1))) h n) : Rn d (bc) (bs) mX13_text 51 [some (vR r0)] [] h n Q := by
  refine Rn_iconst dX13_text_51 rfl ?_
  exact Rn_ireturn rfl dX13_text_52 k
theorem BX13_text_53 {d bc bs : Nat} {h : aH} {n : Nat} {Q : aQ} {ar0 at3 : Nat} {f1 : List aV} {w5 : List Int} {v7 : Int} (h2 : h ar0 = cO 13 f1) (g4 : f1[0]? = some (vR (some at3))) (h6 : h at3 = cI w5) (g8 : w5[(1 : Int).toNat]? = some v7) (b9 : -2147483648 ≤ v7 + 1 ∧ v7 + 1 < 2147483648) (j10 : (1 : Int) < w5.length) (z11 : at3 ≠ 0) (k : Rn d bc bs mX13_text 63 [some (vR (some ar0))] [] (up h at3 (cI (w5.set (1 : Int).toNat (v7 + 1)))) n Q) : Rn d (bc) (bs) mX13_text 53 [some (vR (some ar0))] [] h n Q := by
  refine Rn_aload_n dX13_text_53 rfl rfl rfl ?_
  refine Rn_getfield (ci := 13) (k := 0) dX13_text_54 rfl in_13 (Nat.le_of_ble_eq_true rfl) wd_1352 rfl h2 g4 ?_
  refine Rn_iconst dX13_text_57 rfl ?_
  refine Rn_dup2 dX13_text_58 rfl rfl ?_
  refine Rn_iaload dX13_text_59 h6 (by decide) g8 ?_
  refine Rn_iconst dX13_text_60 rfl ?_
  refine Rn_iadd dX13_text_61 ?_
  rw [w32_id b9.1 b9.2]
  refine Rn_iastore dX13_text_62 z11 h6 (by decide) j10 ?_
  exact k
theorem BX13_text_63 {d bc bs : Nat} {h : aH} {n : Nat} {Q : aQ} {ar0 at3 : Nat} {f1 : List aV} {w5 : List Int} {v7 : Int} (h2 : h ar0 = cO 13 f1) (g4 : f1[0]? = some (vR (some at3))) (h6 : h at3 = cI w5) (g8 : w5[(1 : Int).toNat]? = some v7) (b9 : -2147483648 ≤ v7 - 1 ∧ v7 - 1 < 2147483648) (k : Q (some (vI (v7 - 1))) h n) : Rn d (bc) (bs) mX13_text 63 [some (vR (some ar0))] [] h n Q := by
  refine Rn_aload_n dX13_text_63 rfl rfl rfl ?_
  refine Rn_getfield (ci := 13) (k := 0) dX13_text_64 rfl in_13 (Nat.le_of_ble_eq_true rfl) wd_1352 rfl h2 g4 ?_
  refine Rn_iconst dX13_text_67 rfl ?_
  refine Rn_iaload dX13_text_68 h6 (by decide) g8 ?_
  refine Rn_iconst dX13_text_69 rfl ?_
  refine Rn_isub dX13_text_70 ?_
  rw [w32_id b9.1 b9.2]
  exact Rn_ireturn rfl dX13_text_71 k
theorem dX13_fault_0 : decode cX13_fault 0 = .ok (.iload_n 1, 1) := by decide +kernel
theorem dX13_fault_1 : decode cX13_fault 1 = .ok (.ifCond .ne 10, 3) := by decide +kernel
theorem dX13_fault_4 : decode cX13_fault 4 = .ok (.aload_n 0, 1) := by decide +kernel
theorem dX13_fault_5 : decode cX13_fault 5 = .ok (.getfield 22, 3) := by decide +kernel
theorem dX13_fault_8 : decode cX13_fault 8 = .ok (.goto 16, 3) := by decide +kernel
theorem dX13_fault_11 : decode cX13_fault 11 = .ok (.iload_n 1, 1) := by decide +kernel
theorem dX13_fault_12 : decode cX13_fault 12 = .ok (.iconst 1, 1) := by decide +kernel
theorem dX13_fault_13 : decode cX13_fault 13 = .ok (.if_icmp .ne 10, 3) := by decide +kernel
theorem dX13_fault_16 : decode cX13_fault 16 = .ok (.aload_n 0, 1) := by decide +kernel
theorem dX13_fault_17 : decode cX13_fault 17 = .ok (.getfield 26, 3) := by decide +kernel
theorem dX13_fault_20 : decode cX13_fault 20 = .ok (.goto 4, 3) := by decide +kernel
theorem dX13_fault_23 : decode cX13_fault 23 = .ok (.iconst (-1), 1) := by decide +kernel
theorem dX13_fault_24 : decode cX13_fault 24 = .ok (.ireturn, 1) := by decide +kernel
theorem BX13_fault_0 {d bc bs : Nat} {h : aH} {n : Nat} {Q : aQ} {r0 : Option Nat} {x1 : Int} (kt : x1 ≠ 0 → Rn d bc bs mX13_fault 11 [some (vR r0), some (vI x1)] [] h n Q) (kf : x1 = 0 → Rn d bc bs mX13_fault 4 [some (vR r0), some (vI x1)] [] h n Q) : Rn d (bc) (bs) mX13_fault 0 [some (vR r0), some (vI x1)] [] h n Q := by
  refine Rn_iload_n dX13_fault_0 rfl rfl ?_
  refine Rn_ifne (tgt := 11) dX13_fault_1 rfl ?_ ?_
  · exact kt
  · exact kf
theorem BX13_fault_4 {d bc bs : Nat} {h : aH} {n : Nat} {Q : aQ} {ar0 : Nat} {x1 v3 : Int} {f1 : List aV} (h2 : h ar0 = cO 13 f1) (g4 : f1[5]? = some (vI v3)) (k : Q (some (vI v3)) h n) : Rn d (bc) (bs) mX13_fault 4 [some (vR (some ar0)), some (vI x1)] [] h n Q := by
  refine Rn_aload_n dX13_fault_4 rfl rfl rfl ?_
  refine Rn_getfield (ci := 13) (k := 5) dX13_fault_5 rfl in_13 (Nat.le_of_ble_eq_true rfl) wd_1357 rfl h2 g4 ?_
  refine Rn_goto (tgt := 24) dX13_fault_8 rfl ?_
  exact Rn_ireturn rfl dX13_fault_24 k
theorem BX13_fault_11 {d bc bs : Nat} {h : aH} {n : Nat} {Q : aQ} {r0 : Option Nat} {x1 : Int} (kt : x1 ≠ 1 → Rn d bc bs mX13_fault 23 [some (vR r0), some (vI x1)] [] h n Q) (kf : x1 = 1 → Rn d bc bs mX13_fault 16 [some (vR r0), some (vI x1)] [] h n Q) : Rn d (bc) (bs) mX13_fault 11 [some (vR r0), some (vI x1)] [] h n Q := by
  refine Rn_iload_n dX13_fault_11 rfl rfl ?_
  refine Rn_iconst dX13_fault_12 rfl ?_
  refine Rn_icmpne (tgt := 23) dX13_fault_13 rfl ?_ ?_
  · exact kt
  · exact kf
theorem BX13_fault_16 {d bc bs : Nat} {h : aH} {n : Nat} {Q : aQ} {ar0 : Nat} {x1 v3 : Int} {f1 : List aV} (h2 : h ar0 = cO 13 f1) (g4 : f1[6]? = some (vI v3)) (k : Q (some (vI v3)) h n) : Rn d (bc) (bs) mX13_fault 16 [some (vR (some ar0)), some (vI x1)] [] h n Q := by
  refine Rn_aload_n dX13_fault_16 rfl rfl rfl ?_
  refine Rn_getfield (ci := 13) (k := 6) dX13_fault_17 rfl in_13 (Nat.le_of_ble_eq_true rfl) wd_1358 rfl h2 g4 ?_
  refine Rn_goto (tgt := 24) dX13_fault_20 rfl ?_
  exact Rn_ireturn rfl dX13_fault_24 k
theorem BX13_fault_23 {d bc bs : Nat} {h : aH} {n : Nat} {Q : aQ} {r0 : Option Nat} {x1 : Int} (k : Q (some (vI (-1))) h n) : Rn d (bc) (bs) mX13_fault 23 [some (vR r0), some (vI x1)] [] h n Q := by
  refine Rn_iconst dX13_fault_23 rfl ?_
  exact Rn_ireturn rfl dX13_fault_24 k
theorem dX13_by_0 : decode cX13_by 0 = .ok (.iload_n 1, 1) := by decide +kernel
theorem dX13_by_1 : decode cX13_by 1 = .ok (.iconst (-1), 1) := by decide +kernel
theorem dX13_by_2 : decode cX13_by 2 = .ok (.aload_n 0, 1) := by decide +kernel
theorem dX13_by_3 : decode cX13_by 3 = .ok (.getfield 7, 3) := by decide +kernel
theorem dX13_by_6 : decode cX13_by 6 = .ok (.iconst 1, 1) := by decide +kernel
theorem dX13_by_7 : decode cX13_by 7 = .ok (.iaload, 1) := by decide +kernel
theorem dX13_by_8 : decode cX13_by 8 = .ok (.iconst 1, 1) := by decide +kernel
theorem dX13_by_9 : decode cX13_by 9 = .ok (.isub, 1) := by decide +kernel
theorem dX13_by_10 : decode cX13_by 10 = .ok (.invokestatic 72, 3) := by decide +kernel
theorem dX13_by_13 : decode cX13_by 13 = .ok (.ifCond .ne 5, 3) := by decide +kernel
theorem dX13_by_16 : decode cX13_by 16 = .ok (.iconst 0, 1) := by decide +kernel
theorem dX13_by_17 : decode cX13_by 17 = .ok (.ireturn, 1) := by decide +kernel
theorem dX13_by_18 : decode cX13_by 18 = .ok (.aload_n 0, 1) := by decide +kernel
theorem dX13_by_19 : decode cX13_by 19 = .ok (.getfield 7, 3) := by decide +kernel
theorem dX13_by_22 : decode cX13_by 22 = .ok (.iconst 2, 1) := by decide +kernel
theorem dX13_by_23 : decode cX13_by 23 = .ok (.iload_n 1, 1) := by decide +kernel
theorem dX13_by_24 : decode cX13_by 24 = .ok (.iastore, 1) := by decide +kernel
theorem dX13_by_25 : decode cX13_by 25 = .ok (.iconst 1, 1) := by decide +kernel
theorem dX13_by_26 : decode cX13_by 26 = .ok (.ireturn, 1) := by decide +kernel
theorem BX13_by_0 {d bc bs : Nat} {h : aH} {n : Nat} {Q : aQ} {ar0 at3 : Nat} {x1 v7 : Int} {f1 : List aV} {w5 : List Int} (h2 : h ar0 = cO 13 f1) (g4 : f1[0]? = some (vR (some at3))) (h6 : h at3 = cI w5) (g8 : w5[(1 : Int).toNat]? = some v7) (b9 : -2147483648 ≤ v7 - 1 ∧ v7 - 1 < 2147483648) (k : Rn d 0 0 mX13_isIn 0 [some (vI x1), some (vI (-1)), some (vI (v7 - 1))] [] h n (fun v h1 n1 => Rn (d + 1) bc bs mX13_by 13 [some (vR (some ar0)), some (vI x1)] (v.toList ++ []) h1 n1 Q)) : Rn (d + 1) (bc) (bs) mX13_by 0 [some (vR (some ar0)), some (vI x1)] [] h n Q := by
  refine Rn_iload_n dX13_by_0 rfl rfl ?_
  refine Rn_iconst dX13_by_1 rfl ?_
  refine Rn_aload_n dX13_by_2 rfl rfl rfl ?_
  refine Rn_getfield (ci := 13) (k := 0) dX13_by_3 rfl in_13 (Nat.le_of_ble_eq_true rfl) wd_1352 rfl h2 g4 ?_
  refine Rn_iconst dX13_by_6 rfl ?_
  refine Rn_iaload dX13_by_7 h6 (by decide) g8 ?_
  refine Rn_iconst dX13_by_8 rfl ?_
  refine Rn_isub dX13_by_9 ?_
  rw [w32_id b9.1 b9.2]
  exact Rn_callS (avs := [vI x1, vI (-1), vI (v7 - 1)]) (st := []) (bc1 := 0) (bs1 := 0) (bc2 := bc) (bs2 := bs) fx_X13_isIn dX13_by_10 (Or.inl wd_1463) wd_1464 rfl (Nat.le_of_ble_eq_true rfl) (Nat.le_of_ble_eq_true rfl) (by omega) (by omega) (ls1 := [some (vI x1), some (vI (-1)), some (vI (v7 - 1))]) rfl k
theorem BX13_by_13 {d bc bs : Nat} {h : aH} {n : Nat} {Q : aQ} {r0 : Option Nat} {x1 s0 : Int} (kt : s0 ≠ 0 → Rn d bc bs mX13_by 18 [some (vR r0), some (vI x1)] [] h n Q) (kf : s0 = 0 → Rn d bc bs mX13_by 16 [some (vR r0), some (vI x1)] [] h n Q) : Rn d (bc) (bs) mX13_by 13 [some (vR r0), some (vI x1)] [vI s0] h n Q := by
  refine Rn_ifne (tgt := 18) dX13_by_13 rfl ?_ ?_
  · exact kt
  · exact kf
theorem BX13_by_16 {d bc bs : Nat} {h : aH} {n : Nat} {Q : aQ} {r0 : Option Nat} {x1 : Int} (k : Q (some (vI 0)) h n) : Rn d (bc) (bs) mX13_by 16 [some (vR r0), some (vI x1)] [] h n Q := by
  refine Rn_iconst dX13_by_16 rfl ?_
  exact Rn_zreturn rfl dX13_by_17 (by decide) k
theorem BX13_by_18 {d bc bs : Nat} {h : aH} {n : Nat} {Q : aQ} {ar0 at3 : Nat} {x1 : Int} {f1 : List aV} {w5 : List Int} (h2 : h ar0 = cO 13 f1) (g4 : f1[0]? = some (vR (some at3))) (h6 : h at3 = cI w5) (j7 : (2 : Int) < w5.length) (z8 : at3 ≠ 0) (k : Rn d bc bs mX13_by 25 [some (vR (some ar0)), some (vI x1)] [] (up h at3 (cI (w5.set (2 : Int).toNat x1))) n Q) : Rn d (bc) (bs) mX13_by 18 [some (vR (some ar0)), some (vI x1)] [] h n Q := by
  refine Rn_aload_n dX13_by_18 rfl rfl rfl ?_
  refine Rn_getfield (ci := 13) (k := 0) dX13_by_19 rfl in_13 (Nat.le_of_ble_eq_true rfl) wd_1352 rfl h2 g4 ?_
  refine Rn_iconst dX13_by_22 rfl ?_
  refine Rn_iload_n dX13_by_23 rfl rfl ?_
  refine Rn_iastore dX13_by_24 z8 h6 (by decide) j7 ?_
  exact k
theorem BX13_by_25 {d bc bs : Nat} {h : aH} {n : Nat} {Q : aQ} {r0 : Option Nat} {x1 : Int} (k : Q (some (vI 1)) h n) : Rn d (bc) (bs) mX13_by 25 [some (vR r0), some (vI x1)] [] h n Q := by
  refine Rn_iconst dX13_by_25 rfl ?_
  exact Rn_zreturn rfl dX13_by_26 (by decide) k
theorem dX13_clip_0 : decode cX13_clip 0 = .ok (.lload_n 0, 1) := by decide +kernel
theorem dX13_clip_1 : decode cX13_clip 1 = .ok (.ldc2_w 259, 3) := by decide +kernel
theorem dX13_clip_4 : decode cX13_clip 4 = .ok (.lcmp, 1) := by decide +kernel
theorem dX13_clip_5 : decode cX13_clip 5 = .ok (.ifCond .le 9, 3) := by decide +kernel
theorem dX13_clip_8 : decode cX13_clip 8 = .ok (.ldc2_w 259, 3) := by decide +kernel
theorem dX13_clip_11 : decode cX13_clip 11 = .ok (.goto 18, 3) := by decide +kernel
theorem dX13_clip_14 : decode cX13_clip 14 = .ok (.lload_n 0, 1) := by decide +kernel
theorem dX13_clip_15 : decode cX13_clip 15 = .ok (.ldc2_w 261, 3) := by decide +kernel
theorem dX13_clip_18 : decode cX13_clip 18 = .ok (.lcmp, 1) := by decide +kernel
theorem dX13_clip_19 : decode cX13_clip 19 = .ok (.ifCond .ge 9, 3) := by decide +kernel
theorem dX13_clip_22 : decode cX13_clip 22 = .ok (.ldc2_w 261, 3) := by decide +kernel
theorem dX13_clip_25 : decode cX13_clip 25 = .ok (.goto 4, 3) := by decide +kernel
theorem dX13_clip_28 : decode cX13_clip 28 = .ok (.lload_n 0, 1) := by decide +kernel
theorem dX13_clip_29 : decode cX13_clip 29 = .ok (.lreturn, 1) := by decide +kernel
theorem BX13_clip_0 {d bc bs : Nat} {h : aH} {n : Nat} {Q : aQ} {x0 : Int} (kt : x0 ≤ 1000000 → Rn d bc bs mX13_clip 14 [some (vL x0), none] [] h n Q) (kf : 1000000 < x0 → Rn d bc bs mX13_clip 8 [some (vL x0), none] [] h n Q) : Rn d (bc) (bs) mX13_clip 0 [some (vL x0), none] [] h n Q := by
  refine Rn_lload_n dX13_clip_0 rfl rfl ?_
  refine Rn_ldc2 (x := 1000000) dX13_clip_1 wd_1753 rfl ?_
  refine Rn_lcmp dX13_clip_4 ?_
  refine Rn_ifle (tgt := 14) dX13_clip_5 rfl ?_ ?_
  · exact fun q => kt (lc_le q)
  · exact fun q => kf (lc_gt q)
theorem BX13_clip_8 {d bc bs : Nat} {h : aH} {n : Nat} {Q : aQ} {x0 : Int} (k : Q (some (vL 1000000)) h n) : Rn d (bc) (bs) mX13_clip 8 [some (vL x0), none] [] h n Q := by
  refine Rn_ldc2 (x := 1000000) dX13_clip_8 wd_1753 rfl ?_
  refine Rn_goto (tgt := 29) dX13_clip_11 rfl ?_
  exact Rn_lreturn rfl dX13_clip_29 k
theorem BX13_clip_14 {d bc bs : Nat} {h : aH} {n : Nat} {Q : aQ} {x0 : Int} (kt : (-1000000) ≤ x0 → Rn d bc bs mX13_clip 28 [some (vL x0), none] [] h n Q) (kf : x0 < (-1000000) → Rn d bc bs mX13_clip 22 [some (vL x0), none] [] h n Q) : Rn d (bc) (bs) mX13_clip 14 [some (vL x0), none] [] h n Q := by
  refine Rn_lload_n dX13_clip_14 rfl rfl ?_
  refine Rn_ldc2 (x := (-1000000)) dX13_clip_15 wd_1760 rfl ?_
  refine Rn_lcmp dX13_clip_18 ?_
  refine Rn_ifge (tgt := 28) dX13_clip_19 rfl ?_ ?_
  · exact fun q => kt (lc_ge q)
  · exact fun q => kf (lc_lt q)
theorem BX13_clip_22 {d bc bs : Nat} {h : aH} {n : Nat} {Q : aQ} {x0 : Int} (k : Q (some (vL (-1000000))) h n) : Rn d (bc) (bs) mX13_clip 22 [some (vL x0), none] [] h n Q := by
  refine Rn_ldc2 (x := (-1000000)) dX13_clip_22 wd_1760 rfl ?_
  refine Rn_goto (tgt := 29) dX13_clip_25 rfl ?_
  exact Rn_lreturn rfl dX13_clip_29 k
theorem BX13_clip_28 {d bc bs : Nat} {h : aH} {n : Nat} {Q : aQ} {x0 : Int} (k : Q (some (vL x0)) h n) : Rn d (bc) (bs) mX13_clip 28 [some (vL x0), none] [] h n Q := by
  refine Rn_lload_n dX13_clip_28 rfl rfl ?_
  exact Rn_lreturn rfl dX13_clip_29 k
theorem dX13_two_0 : decode cX13_two 0 = .ok (.iload_n 0, 1) := by decide +kernel
theorem dX13_two_1 : decode cX13_two 1 = .ok (.tableswitch 48 6 8 #[27, 34, 41], 27) := by decide +kernel
theorem dX13_two_28 : decode cX13_two 28 = .ok (.lload_n 1, 1) := by decide +kernel
theorem dX13_two_29 : decode cX13_two 29 = .ok (.lload_n 3, 1) := by decide +kernel
theorem dX13_two_30 : decode cX13_two 30 = .ok (.ladd, 1) := by decide +kernel
theorem dX13_two_31 : decode cX13_two 31 = .ok (.invokestatic 263, 3) := by decide +kernel
theorem dX13_two_34 : decode cX13_two 34 = .ok (.lreturn, 1) := by decide +kernel
theorem dX13_two_35 : decode cX13_two 35 = .ok (.lload_n 1, 1) := by decide +kernel
theorem dX13_two_36 : decode cX13_two 36 = .ok (.lload_n 3, 1) := by decide +kernel
theorem dX13_two_37 : decode cX13_two 37 = .ok (.lsub, 1) := by decide +kernel
theorem dX13_two_38 : decode cX13_two 38 = .ok (.invokestatic 263, 3) := by decide +kernel
theorem dX13_two_41 : decode cX13_two 41 = .ok (.lreturn, 1) := by decide +kernel
theorem dX13_two_42 : decode cX13_two 42 = .ok (.lload_n 1, 1) := by decide +kernel
theorem dX13_two_43 : decode cX13_two 43 = .ok (.lload_n 3, 1) := by decide +kernel
theorem dX13_two_44 : decode cX13_two 44 = .ok (.lmul, 1) := by decide +kernel
theorem dX13_two_45 : decode cX13_two 45 = .ok (.invokestatic 263, 3) := by decide +kernel
theorem dX13_two_48 : decode cX13_two 48 = .ok (.lreturn, 1) := by decide +kernel
theorem dX13_two_49 : decode cX13_two 49 = .ok (.lload_n 3, 1) := by decide +kernel
theorem dX13_two_50 : decode cX13_two 50 = .ok (.lconst 0, 1) := by decide +kernel
theorem dX13_two_51 : decode cX13_two 51 = .ok (.lcmp, 1) := by decide +kernel
theorem dX13_two_52 : decode cX13_two 52 = .ok (.ifCond .ne 7, 3) := by decide +kernel
theorem dX13_two_55 : decode cX13_two 55 = .ok (.lconst 0, 1) := by decide +kernel
theorem dX13_two_56 : decode cX13_two 56 = .ok (.goto 9, 3) := by decide +kernel
theorem dX13_two_59 : decode cX13_two 59 = .ok (.lload_n 1, 1) := by decide +kernel
theorem dX13_two_60 : decode cX13_two 60 = .ok (.lload_n 3, 1) := by decide +kernel
theorem dX13_two_61 : decode cX13_two 61 = .ok (.ldiv, 1) := by decide +kernel
theorem dX13_two_62 : decode cX13_two 62 = .ok (.invokestatic 263, 3) := by decide +kernel
theorem dX13_two_65 : decode cX13_two 65 = .ok (.lreturn, 1) := by decide +kernel
theorem BX13_two_0 {d bc bs : Nat} {h : aH} {n : Nat} {Q : aQ} {x0 x1 x3 : Int} (kd : (x0 < 6 ∨ 8 < x0) → Rn d bc bs mX13_two 49 [some (vI x0), some (vL x1), none, some (vL x3), none] [] h n Q) (k6 : x0 = 6 → Rn d bc bs mX13_two 28 [some (vI x0), some (vL x1), none, some (vL x3), none] [] h n Q) (k7 : x0 = 7 → Rn d bc bs mX13_two 35 [some (vI x0), some (vL x1), none, some (vL x3), none] [] h n Q) (k8 : x0 = 8 → Rn d bc bs mX13_two 42 [some (vI x0), some (vL x1), none, some (vL x3), none] [] h n Q) : Rn d (bc) (bs) mX13_two 0 [some (vI x0), some (vL x1), none, some (vL x3), none] [] h n Q := by
  refine Rn_iload_n dX13_two_0 rfl rfl ?_
  by_cases hq : x0 < 6 ∨ 8 < x0
  · exact Rn_tableOut (tgt := 49) dX13_two_1 hq rfl (kd hq)
  rcases (show x0 = 6 ∨ x0 = 7 ∨ x0 = 8 by omega) with hz | hz | hz
  · exact Rn_tableIn (tgt := 28) dX13_two_1 (by omega) (by omega) (by rw [hz] <;> rfl) rfl (k6 hz)
  · exact Rn_tableIn (tgt := 35) dX13_two_1 (by omega) (by omega) (by rw [hz] <;> rfl) rfl (k7 hz)
  · exact Rn_tableIn (tgt := 42) dX13_two_1 (by omega) (by omega) (by rw [hz] <;> rfl) rfl (k8 hz)
theorem BX13_two_28 {d bc bs : Nat} {h : aH} {n : Nat} {Q : aQ} {x0 x1 x3 : Int} (b1 : -9223372036854775808 ≤ x1 + x3 ∧ x1 + x3 < 9223372036854775808) (k : Rn d 0 0 mX13_clip 0 [some (vL (x1 + x3)), none] [] h n (fun v h1 n1 => Rn (d + 1) bc bs mX13_two 34 [some (vI x0), some (vL x1), none, some (vL x3), none] (v.toList ++ []) h1 n1 Q)) : Rn (d + 1) (bc) (bs) mX13_two 28 [some (vI x0), some (vL x1), none, some (vL x3), none] [] h n Q := by
  refine Rn_lload_n dX13_two_28 rfl rfl ?_
  refine Rn_lload_n dX13_two_29 rfl rfl ?_
  refine Rn_ladd dX13_two_30 ?_
  rw [w64_id b1.1 b1.2]
  exact Rn_callS (avs := [vL (x1 + x3)]) (st := []) (bc1 := 0) (bs1 := 0) (bc2 := bc) (bs2 := bs) fx_X13_clip dX13_two_31 (Or.inl wd_1757) wd_1758 rfl (Nat.le_of_ble_eq_true rfl) (Nat.le_of_ble_eq_true rfl) (by omega) (by omega) (ls1 := [some (vL (x1 + x3)), none]) rfl k
theorem BX13_two_34 {d bc bs : Nat} {h : aH} {n : Nat} {Q : aQ} {x0 x1 x3 s0 : Int} (k : Q (some (vL s0)) h n) : Rn d (bc) (bs) mX13_two 34 [some (vI x0), some (vL x1), none, some (vL x3), none] [vL s0] h n Q := by
  exact Rn_lreturn rfl dX13_two_34 k
theorem BX13_two_35 {d bc bs : Nat} {h : aH} {n : Nat} {Q : aQ} {x0 x1 x3 : Int} (b1 : -9223372036854775808 ≤ x1 - x3 ∧ x1 - x3 < 9223372036854775808) (k : Rn d 0 0 mX13_clip 0 [some (vL (x1 - x3)), none] [] h n (fun v h1 n1 => Rn (d + 1) bc bs mX13_two 41 [some (vI x0), some (vL x1), none, some (vL x3), none] (v.toList ++ []) h1 n1 Q)) : Rn (d + 1) (bc) (bs) mX13_two 35 [some (vI x0), some (vL x1), none, some (vL x3), none] [] h n Q := by
  refine Rn_lload_n dX13_two_35 rfl rfl ?_
  refine Rn_lload_n dX13_two_36 rfl rfl ?_
  refine Rn_lsub dX13_two_37 ?_
  rw [w64_id b1.1 b1.2]
  exact Rn_callS (avs := [vL (x1 - x3)]) (st := []) (bc1 := 0) (bs1 := 0) (bc2 := bc) (bs2 := bs) fx_X13_clip dX13_two_38 (Or.inl wd_1757) wd_1758 rfl (Nat.le_of_ble_eq_true rfl) (Nat.le_of_ble_eq_true rfl) (by omega) (by omega) (ls1 := [some (vL (x1 - x3)), none]) rfl k
theorem BX13_two_41 {d bc bs : Nat} {h : aH} {n : Nat} {Q : aQ} {x0 x1 x3 s0 : Int} (k : Q (some (vL s0)) h n) : Rn d (bc) (bs) mX13_two 41 [some (vI x0), some (vL x1), none, some (vL x3), none] [vL s0] h n Q := by
  exact Rn_lreturn rfl dX13_two_41 k
theorem BX13_two_42 {d bc bs : Nat} {h : aH} {n : Nat} {Q : aQ} {x0 x1 x3 : Int} (b1 : -9223372036854775808 ≤ x1 * x3 ∧ x1 * x3 < 9223372036854775808) (k : Rn d 0 0 mX13_clip 0 [some (vL (x1 * x3)), none] [] h n (fun v h1 n1 => Rn (d + 1) bc bs mX13_two 48 [some (vI x0), some (vL x1), none, some (vL x3), none] (v.toList ++ []) h1 n1 Q)) : Rn (d + 1) (bc) (bs) mX13_two 42 [some (vI x0), some (vL x1), none, some (vL x3), none] [] h n Q := by
  refine Rn_lload_n dX13_two_42 rfl rfl ?_
  refine Rn_lload_n dX13_two_43 rfl rfl ?_
  refine Rn_lmul dX13_two_44 ?_
  rw [w64_id b1.1 b1.2]
  exact Rn_callS (avs := [vL (x1 * x3)]) (st := []) (bc1 := 0) (bs1 := 0) (bc2 := bc) (bs2 := bs) fx_X13_clip dX13_two_45 (Or.inl wd_1757) wd_1758 rfl (Nat.le_of_ble_eq_true rfl) (Nat.le_of_ble_eq_true rfl) (by omega) (by omega) (ls1 := [some (vL (x1 * x3)), none]) rfl k
theorem BX13_two_48 {d bc bs : Nat} {h : aH} {n : Nat} {Q : aQ} {x0 x1 x3 s0 : Int} (k : Q (some (vL s0)) h n) : Rn d (bc) (bs) mX13_two 48 [some (vI x0), some (vL x1), none, some (vL x3), none] [vL s0] h n Q := by
  exact Rn_lreturn rfl dX13_two_48 k
theorem BX13_two_49 {d bc bs : Nat} {h : aH} {n : Nat} {Q : aQ} {x0 x1 x3 : Int} (kt : x3 ≠ 0 → Rn d bc bs mX13_two 59 [some (vI x0), some (vL x1), none, some (vL x3), none] [] h n Q) (kf : x3 = 0 → Rn d bc bs mX13_two 55 [some (vI x0), some (vL x1), none, some (vL x3), none] [] h n Q) : Rn d (bc) (bs) mX13_two 49 [some (vI x0), some (vL x1), none, some (vL x3), none] [] h n Q := by
  refine Rn_lload_n dX13_two_49 rfl rfl ?_
  refine Rn_lconst (x := 0) dX13_two_50 rfl ?_
  refine Rn_lcmp dX13_two_51 ?_
  refine Rn_ifne (tgt := 59) dX13_two_52 rfl ?_ ?_
  · exact fun q => kt (lc_ne q)
  · exact fun q => kf (lc_eq q)
theorem BX13_two_55 {d bc bs : Nat} {h : aH} {n : Nat} {Q : aQ} {x0 x1 x3 : Int} (k : Q (some (vL 0)) h n) : Rn d (bc) (bs) mX13_two 55 [some (vI x0), some (vL x1), none, some (vL x3), none] [] h n Q := by
  refine Rn_lconst (x := 0) dX13_two_55 rfl ?_
  refine Rn_goto (tgt := 65) dX13_two_56 rfl ?_
  exact Rn_lreturn rfl dX13_two_65 k
theorem BX13_two_59 {d bc bs : Nat} {h : aH} {n : Nat} {Q : aQ} {x0 x1 x3 : Int} (e1 : ¬ x3 = 0) (b2 : -9223372036854775808 ≤ Int.tdiv x1 x3 ∧ Int.tdiv x1 x3 < 9223372036854775808) (k : Rn d 0 0 mX13_clip 0 [some (vL (Int.tdiv x1 x3)), none] [] h n (fun v h1 n1 => Rn (d + 1) bc bs mX13_two 65 [some (vI x0), some (vL x1), none, some (vL x3), none] (v.toList ++ []) h1 n1 Q)) : Rn (d + 1) (bc) (bs) mX13_two 59 [some (vI x0), some (vL x1), none, some (vL x3), none] [] h n Q := by
  refine Rn_lload_n dX13_two_59 rfl rfl ?_
  refine Rn_lload_n dX13_two_60 rfl rfl ?_
  refine Rn_ldiv dX13_two_61 e1 ?_
  rw [w64_id b2.1 b2.2]
  exact Rn_callS (avs := [vL (Int.tdiv x1 x3)]) (st := []) (bc1 := 0) (bs1 := 0) (bc2 := bc) (bs2 := bs) fx_X13_clip dX13_two_62 (Or.inl wd_1757) wd_1758 rfl (Nat.le_of_ble_eq_true rfl) (Nat.le_of_ble_eq_true rfl) (by omega) (by omega) (ls1 := [some (vL (Int.tdiv x1 x3)), none]) rfl k
theorem BX13_two_65 {d bc bs : Nat} {h : aH} {n : Nat} {Q : aQ} {x0 x1 x3 s0 : Int} (k : Q (some (vL s0)) h n) : Rn d (bc) (bs) mX13_two 65 [some (vI x0), some (vL x1), none, some (vL x3), none] [vL s0] h n Q := by
  exact Rn_lreturn rfl dX13_two_65 k
theorem dX13_isAsked_0 : decode cX13_isAsked 0 = .ok (.iload_n 0, 1) := by decide +kernel
theorem dX13_isAsked_1 : decode cX13_isAsked 1 = .ok (.bipush 10, 2) := by decide +kernel
theorem dX13_isAsked_3 : decode cX13_isAsked 3 = .ok (.if_icmp .ne 17, 3) := by decide +kernel
theorem dX13_isAsked_6 : decode cX13_isAsked 6 = .ok (.lload_n 1, 1) := by decide +kernel
theorem dX13_isAsked_7 : decode cX13_isAsked 7 = .ok (.lload_n 3, 1) := by decide +kernel
theorem dX13_isAsked_8 : decode cX13_isAsked 8 = .ok (.lcmp, 1) := by decide +kernel
theorem dX13_isAsked_9 : decode cX13_isAsked 9 = .ok (.ifCond .ge 7, 3) := by decide +kernel
theorem dX13_isAsked_12 : decode cX13_isAsked 12 = .ok (.iconst 1, 1) := by decide +kernel
theorem dX13_isAsked_13 : decode cX13_isAsked 13 = .ok (.goto 98, 3) := by decide +kernel
theorem dX13_isAsked_16 : decode cX13_isAsked 16 = .ok (.iconst 0, 1) := by decide +kernel
theorem dX13_isAsked_17 : decode cX13_isAsked 17 = .ok (.goto 94, 3) := by decide +kernel
theorem dX13_isAsked_20 : decode cX13_isAsked 20 = .ok (.iload_n 0, 1) := by decide +kernel
theorem dX13_isAsked_21 : decode cX13_isAsked 21 = .ok (.bipush 11, 2) := by decide +kernel
theorem dX13_isAsked_23 : decode cX13_isAsked 23 = .ok (.if_icmp .ne 17, 3) := by decide +kernel
theorem dX13_isAsked_26 : decode cX13_isAsked 26 = .ok (.lload_n 1, 1) := by decide +kernel
theorem dX13_isAsked_27 : decode cX13_isAsked 27 = .ok (.lload_n 3, 1) := by decide +kernel
theorem dX13_isAsked_28 : decode cX13_isAsked 28 = .ok (.lcmp, 1) := by decide +kernel
theorem dX13_isAsked_29 : decode cX13_isAsked 29 = .ok (.ifCond .gt 7, 3) := by decide +kernel
theorem dX13_isAsked_32 : decode cX13_isAsked 32 = .ok (.iconst 1, 1) := by decide +kernel
theorem dX13_isAsked_33 : decode cX13_isAsked 33 = .ok (.goto 78, 3) := by decide +kernel
theorem dX13_isAsked_36 : decode cX13_isAsked 36 = .ok (.iconst 0, 1) := by decide +kernel
theorem dX13_isAsked_37 : decode cX13_isAsked 37 = .ok (.goto 74, 3) := by decide +kernel
theorem dX13_isAsked_40 : decode cX13_isAsked 40 = .ok (.iload_n 0, 1) := by decide +kernel
theorem dX13_isAsked_41 : decode cX13_isAsked 41 = .ok (.bipush 12, 2) := by decide +kernel
theorem dX13_isAsked_43 : decode cX13_isAsked 43 = .ok (.if_icmp .ne 17, 3) := by decide +kernel
theorem dX13_isAsked_46 : decode cX13_isAsked 46 = .ok (.lload_n 1, 1) := by decide +kernel
theorem dX13_isAsked_47 : decode cX13_isAsked 47 = .ok (.lload_n 3, 1) := by decide +kernel
theorem dX13_isAsked_48 : decode cX13_isAsked 48 = .ok (.lcmp, 1) := by decide +kernel
theorem dX13_isAsked_49 : decode cX13_isAsked 49 = .ok (.ifCond .le 7, 3) := by decide +kernel
theorem dX13_isAsked_52 : decode cX13_isAsked 52 = .ok (.iconst 1, 1) := by decide +kernel
theorem dX13_isAsked_53 : decode cX13_isAsked 53 = .ok (.goto 58, 3) := by decide +kernel
theorem dX13_isAsked_56 : decode cX13_isAsked 56 = .ok (.iconst 0, 1) := by decide +kernel
theorem dX13_isAsked_57 : decode cX13_isAsked 57 = .ok (.goto 54, 3) := by decide +kernel
theorem dX13_isAsked_60 : decode cX13_isAsked 60 = .ok (.iload_n 0, 1) := by decide +kernel
theorem dX13_isAsked_61 : decode cX13_isAsked 61 = .ok (.bipush 13, 2) := by decide +kernel
theorem dX13_isAsked_63 : decode cX13_isAsked 63 = .ok (.if_icmp .ne 17, 3) := by decide +kernel
theorem dX13_isAsked_66 : decode cX13_isAsked 66 = .ok (.lload_n 1, 1) := by decide +kernel
theorem dX13_isAsked_67 : decode cX13_isAsked 67 = .ok (.lload_n 3, 1) := by decide +kernel
theorem dX13_isAsked_68 : decode cX13_isAsked 68 = .ok (.lcmp, 1) := by decide +kernel
theorem dX13_isAsked_69 : decode cX13_isAsked 69 = .ok (.ifCond .lt 7, 3) := by decide +kernel
theorem dX13_isAsked_72 : decode cX13_isAsked 72 = .ok (.iconst 1, 1) := by decide +kernel
theorem dX13_isAsked_73 : decode cX13_isAsked 73 = .ok (.goto 38, 3) := by decide +kernel
theorem dX13_isAsked_76 : decode cX13_isAsked 76 = .ok (.iconst 0, 1) := by decide +kernel
theorem dX13_isAsked_77 : decode cX13_isAsked 77 = .ok (.goto 34, 3) := by decide +kernel
theorem dX13_isAsked_80 : decode cX13_isAsked 80 = .ok (.iload_n 0, 1) := by decide +kernel
theorem dX13_isAsked_81 : decode cX13_isAsked 81 = .ok (.bipush 14, 2) := by decide +kernel
theorem dX13_isAsked_83 : decode cX13_isAsked 83 = .ok (.if_icmp .ne 17, 3) := by decide +kernel
theorem dX13_isAsked_86 : decode cX13_isAsked 86 = .ok (.lload_n 1, 1) := by decide +kernel
theorem dX13_isAsked_87 : decode cX13_isAsked 87 = .ok (.lload_n 3, 1) := by decide +kernel
theorem dX13_isAsked_88 : decode cX13_isAsked 88 = .ok (.lcmp, 1) := by decide +kernel
theorem dX13_isAsked_89 : decode cX13_isAsked 89 = .ok (.ifCond .ne 7, 3) := by decide +kernel
theorem dX13_isAsked_92 : decode cX13_isAsked 92 = .ok (.iconst 1, 1) := by decide +kernel
theorem dX13_isAsked_93 : decode cX13_isAsked 93 = .ok (.goto 18, 3) := by decide +kernel
theorem dX13_isAsked_96 : decode cX13_isAsked 96 = .ok (.iconst 0, 1) := by decide +kernel
theorem dX13_isAsked_97 : decode cX13_isAsked 97 = .ok (.goto 14, 3) := by decide +kernel
theorem dX13_isAsked_100 : decode cX13_isAsked 100 = .ok (.lload_n 1, 1) := by decide +kernel
theorem dX13_isAsked_101 : decode cX13_isAsked 101 = .ok (.lload_n 3, 1) := by decide +kernel
theorem dX13_isAsked_102 : decode cX13_isAsked 102 = .ok (.lcmp, 1) := by decide +kernel
theorem dX13_isAsked_103 : decode cX13_isAsked 103 = .ok (.ifCond .eq 7, 3) := by decide +kernel
theorem dX13_isAsked_106 : decode cX13_isAsked 106 = .ok (.iconst 1, 1) := by decide +kernel
theorem dX13_isAsked_107 : decode cX13_isAsked 107 = .ok (.goto 4, 3) := by decide +kernel
theorem dX13_isAsked_110 : decode cX13_isAsked 110 = .ok (.iconst 0, 1) := by decide +kernel
theorem dX13_isAsked_111 : decode cX13_isAsked 111 = .ok (.ireturn, 1) := by decide +kernel
theorem BX13_isAsked_0 {d bc bs : Nat} {h : aH} {n : Nat} {Q : aQ} {x0 x1 x3 : Int} (kt : x0 ≠ 10 → Rn d bc bs mX13_isAsked 20 [some (vI x0), some (vL x1), none, some (vL x3), none] [] h n Q) (kf : x0 = 10 → Rn d bc bs mX13_isAsked 6 [some (vI x0), some (vL x1), none, some (vL x3), none] [] h n Q) : Rn d (bc) (bs) mX13_isAsked 0 [some (vI x0), some (vL x1), none, some (vL x3), none] [] h n Q := by
  refine Rn_iload_n dX13_isAsked_0 rfl rfl ?_
  refine Rn_bipush dX13_isAsked_1 rfl ?_
  refine Rn_icmpne (tgt := 20) dX13_isAsked_3 rfl ?_ ?_
  · exact kt
  · exact kf
theorem BX13_isAsked_6 {d bc bs : Nat} {h : aH} {n : Nat} {Q : aQ} {x0 x1 x3 : Int} (kt : x3 ≤ x1 → Rn d bc bs mX13_isAsked 16 [some (vI x0), some (vL x1), none, some (vL x3), none] [] h n Q) (kf : x1 < x3 → Rn d bc bs mX13_isAsked 12 [some (vI x0), some (vL x1), none, some (vL x3), none] [] h n Q) : Rn d (bc) (bs) mX13_isAsked 6 [some (vI x0), some (vL x1), none, some (vL x3), none] [] h n Q := by
  refine Rn_lload_n dX13_isAsked_6 rfl rfl ?_
  refine Rn_lload_n dX13_isAsked_7 rfl rfl ?_
  refine Rn_lcmp dX13_isAsked_8 ?_
  refine Rn_ifge (tgt := 16) dX13_isAsked_9 rfl ?_ ?_
  · exact fun q => kt (lc_ge q)
  · exact fun q => kf (lc_lt q)
theorem BX13_isAsked_12 {d bc bs : Nat} {h : aH} {n : Nat} {Q : aQ} {x0 x1 x3 : Int} (k : Q (some (vI 1)) h n) : Rn d (bc) (bs) mX13_isAsked 12 [some (vI x0), some (vL x1), none, some (vL x3), none] [] h n Q := by
  refine Rn_iconst dX13_isAsked_12 rfl ?_
  refine Rn_goto (tgt := 111) dX13_isAsked_13 rfl ?_
  exact Rn_zreturn rfl dX13_isAsked_111 (by decide) k
theorem BX13_isAsked_16 {d bc bs : Nat} {h : aH} {n : Nat} {Q : aQ} {x0 x1 x3 : Int} (k : Q (some (vI 0)) h n) : Rn d (bc) (bs) mX13_isAsked 16 [some (vI x0), some (vL x1), none, some (vL x3), none] [] h n Q := by
  refine Rn_iconst dX13_isAsked_16 rfl ?_
  refine Rn_goto (tgt := 111) dX13_isAsked_17 rfl ?_
  exact Rn_zreturn rfl dX13_isAsked_111 (by decide) k
theorem BX13_isAsked_20 {d bc bs : Nat} {h : aH} {n : Nat} {Q : aQ} {x0 x1 x3 : Int} (kt : x0 ≠ 11 → Rn d bc bs mX13_isAsked 40 [some (vI x0), some (vL x1), none, some (vL x3), none] [] h n Q) (kf : x0 = 11 → Rn d bc bs mX13_isAsked 26 [some (vI x0), some (vL x1), none, some (vL x3), none] [] h n Q) : Rn d (bc) (bs) mX13_isAsked 20 [some (vI x0), some (vL x1), none, some (vL x3), none] [] h n Q := by
  refine Rn_iload_n dX13_isAsked_20 rfl rfl ?_
  refine Rn_bipush dX13_isAsked_21 rfl ?_
  refine Rn_icmpne (tgt := 40) dX13_isAsked_23 rfl ?_ ?_
  · exact kt
  · exact kf
theorem BX13_isAsked_26 {d bc bs : Nat} {h : aH} {n : Nat} {Q : aQ} {x0 x1 x3 : Int} (kt : x3 < x1 → Rn d bc bs mX13_isAsked 36 [some (vI x0), some (vL x1), none, some (vL x3), none] [] h n Q) (kf : x1 ≤ x3 → Rn d bc bs mX13_isAsked 32 [some (vI x0), some (vL x1), none, some (vL x3), none] [] h n Q) : Rn d (bc) (bs) mX13_isAsked 26 [some (vI x0), some (vL x1), none, some (vL x3), none] [] h n Q := by
  refine Rn_lload_n dX13_isAsked_26 rfl rfl ?_
  refine Rn_lload_n dX13_isAsked_27 rfl rfl ?_
  refine Rn_lcmp dX13_isAsked_28 ?_
  refine Rn_ifgt (tgt := 36) dX13_isAsked_29 rfl ?_ ?_
  · exact fun q => kt (lc_gt q)
  · exact fun q => kf (lc_le q)
theorem BX13_isAsked_32 {d bc bs : Nat} {h : aH} {n : Nat} {Q : aQ} {x0 x1 x3 : Int} (k : Q (some (vI 1)) h n) : Rn d (bc) (bs) mX13_isAsked 32 [some (vI x0), some (vL x1), none, some (vL x3), none] [] h n Q := by
  refine Rn_iconst dX13_isAsked_32 rfl ?_
  refine Rn_goto (tgt := 111) dX13_isAsked_33 rfl ?_
  exact Rn_zreturn rfl dX13_isAsked_111 (by decide) k
theorem BX13_isAsked_36 {d bc bs : Nat} {h : aH} {n : Nat} {Q : aQ} {x0 x1 x3 : Int} (k : Q (some (vI 0)) h n) : Rn d (bc) (bs) mX13_isAsked 36 [some (vI x0), some (vL x1), none, some (vL x3), none] [] h n Q := by
  refine Rn_iconst dX13_isAsked_36 rfl ?_
  refine Rn_goto (tgt := 111) dX13_isAsked_37 rfl ?_
  exact Rn_zreturn rfl dX13_isAsked_111 (by decide) k
theorem BX13_isAsked_40 {d bc bs : Nat} {h : aH} {n : Nat} {Q : aQ} {x0 x1 x3 : Int} (kt : x0 ≠ 12 → Rn d bc bs mX13_isAsked 60 [some (vI x0), some (vL x1), none, some (vL x3), none] [] h n Q) (kf : x0 = 12 → Rn d bc bs mX13_isAsked 46 [some (vI x0), some (vL x1), none, some (vL x3), none] [] h n Q) : Rn d (bc) (bs) mX13_isAsked 40 [some (vI x0), some (vL x1), none, some (vL x3), none] [] h n Q := by
  refine Rn_iload_n dX13_isAsked_40 rfl rfl ?_
  refine Rn_bipush dX13_isAsked_41 rfl ?_
  refine Rn_icmpne (tgt := 60) dX13_isAsked_43 rfl ?_ ?_
  · exact kt
  · exact kf
theorem BX13_isAsked_46 {d bc bs : Nat} {h : aH} {n : Nat} {Q : aQ} {x0 x1 x3 : Int} (kt : x1 ≤ x3 → Rn d bc bs mX13_isAsked 56 [some (vI x0), some (vL x1), none, some (vL x3), none] [] h n Q) (kf : x3 < x1 → Rn d bc bs mX13_isAsked 52 [some (vI x0), some (vL x1), none, some (vL x3), none] [] h n Q) : Rn d (bc) (bs) mX13_isAsked 46 [some (vI x0), some (vL x1), none, some (vL x3), none] [] h n Q := by
  refine Rn_lload_n dX13_isAsked_46 rfl rfl ?_
  refine Rn_lload_n dX13_isAsked_47 rfl rfl ?_
  refine Rn_lcmp dX13_isAsked_48 ?_
  refine Rn_ifle (tgt := 56) dX13_isAsked_49 rfl ?_ ?_
  · exact fun q => kt (lc_le q)
  · exact fun q => kf (lc_gt q)
theorem BX13_isAsked_52 {d bc bs : Nat} {h : aH} {n : Nat} {Q : aQ} {x0 x1 x3 : Int} (k : Q (some (vI 1)) h n) : Rn d (bc) (bs) mX13_isAsked 52 [some (vI x0), some (vL x1), none, some (vL x3), none] [] h n Q := by
  refine Rn_iconst dX13_isAsked_52 rfl ?_
  refine Rn_goto (tgt := 111) dX13_isAsked_53 rfl ?_
  exact Rn_zreturn rfl dX13_isAsked_111 (by decide) k
theorem BX13_isAsked_56 {d bc bs : Nat} {h : aH} {n : Nat} {Q : aQ} {x0 x1 x3 : Int} (k : Q (some (vI 0)) h n) : Rn d (bc) (bs) mX13_isAsked 56 [some (vI x0), some (vL x1), none, some (vL x3), none] [] h n Q := by
  refine Rn_iconst dX13_isAsked_56 rfl ?_
  refine Rn_goto (tgt := 111) dX13_isAsked_57 rfl ?_
  exact Rn_zreturn rfl dX13_isAsked_111 (by decide) k
theorem BX13_isAsked_60 {d bc bs : Nat} {h : aH} {n : Nat} {Q : aQ} {x0 x1 x3 : Int} (kt : x0 ≠ 13 → Rn d bc bs mX13_isAsked 80 [some (vI x0), some (vL x1), none, some (vL x3), none] [] h n Q) (kf : x0 = 13 → Rn d bc bs mX13_isAsked 66 [some (vI x0), some (vL x1), none, some (vL x3), none] [] h n Q) : Rn d (bc) (bs) mX13_isAsked 60 [some (vI x0), some (vL x1), none, some (vL x3), none] [] h n Q := by
  refine Rn_iload_n dX13_isAsked_60 rfl rfl ?_
  refine Rn_bipush dX13_isAsked_61 rfl ?_
  refine Rn_icmpne (tgt := 80) dX13_isAsked_63 rfl ?_ ?_
  · exact kt
  · exact kf
theorem BX13_isAsked_66 {d bc bs : Nat} {h : aH} {n : Nat} {Q : aQ} {x0 x1 x3 : Int} (kt : x1 < x3 → Rn d bc bs mX13_isAsked 76 [some (vI x0), some (vL x1), none, some (vL x3), none] [] h n Q) (kf : x3 ≤ x1 → Rn d bc bs mX13_isAsked 72 [some (vI x0), some (vL x1), none, some (vL x3), none] [] h n Q) : Rn d (bc) (bs) mX13_isAsked 66 [some (vI x0), some (vL x1), none, some (vL x3), none] [] h n Q := by
  refine Rn_lload_n dX13_isAsked_66 rfl rfl ?_
  refine Rn_lload_n dX13_isAsked_67 rfl rfl ?_
  refine Rn_lcmp dX13_isAsked_68 ?_
  refine Rn_iflt (tgt := 76) dX13_isAsked_69 rfl ?_ ?_
  · exact fun q => kt (lc_lt q)
  · exact fun q => kf (lc_ge q)
theorem BX13_isAsked_72 {d bc bs : Nat} {h : aH} {n : Nat} {Q : aQ} {x0 x1 x3 : Int} (k : Q (some (vI 1)) h n) : Rn d (bc) (bs) mX13_isAsked 72 [some (vI x0), some (vL x1), none, some (vL x3), none] [] h n Q := by
  refine Rn_iconst dX13_isAsked_72 rfl ?_
  refine Rn_goto (tgt := 111) dX13_isAsked_73 rfl ?_
  exact Rn_zreturn rfl dX13_isAsked_111 (by decide) k
theorem BX13_isAsked_76 {d bc bs : Nat} {h : aH} {n : Nat} {Q : aQ} {x0 x1 x3 : Int} (k : Q (some (vI 0)) h n) : Rn d (bc) (bs) mX13_isAsked 76 [some (vI x0), some (vL x1), none, some (vL x3), none] [] h n Q := by
  refine Rn_iconst dX13_isAsked_76 rfl ?_
  refine Rn_goto (tgt := 111) dX13_isAsked_77 rfl ?_
  exact Rn_zreturn rfl dX13_isAsked_111 (by decide) k
theorem BX13_isAsked_80 {d bc bs : Nat} {h : aH} {n : Nat} {Q : aQ} {x0 x1 x3 : Int} (kt : x0 ≠ 14 → Rn d bc bs mX13_isAsked 100 [some (vI x0), some (vL x1), none, some (vL x3), none] [] h n Q) (kf : x0 = 14 → Rn d bc bs mX13_isAsked 86 [some (vI x0), some (vL x1), none, some (vL x3), none] [] h n Q) : Rn d (bc) (bs) mX13_isAsked 80 [some (vI x0), some (vL x1), none, some (vL x3), none] [] h n Q := by
  refine Rn_iload_n dX13_isAsked_80 rfl rfl ?_
  refine Rn_bipush dX13_isAsked_81 rfl ?_
  refine Rn_icmpne (tgt := 100) dX13_isAsked_83 rfl ?_ ?_
  · exact kt
  · exact kf
theorem BX13_isAsked_86 {d bc bs : Nat} {h : aH} {n : Nat} {Q : aQ} {x0 x1 x3 : Int} (kt : x1 ≠ x3 → Rn d bc bs mX13_isAsked 96 [some (vI x0), some (vL x1), none, some (vL x3), none] [] h n Q) (kf : x1 = x3 → Rn d bc bs mX13_isAsked 92 [some (vI x0), some (vL x1), none, some (vL x3), none] [] h n Q) : Rn d (bc) (bs) mX13_isAsked 86 [some (vI x0), some (vL x1), none, some (vL x3), none] [] h n Q := by
  refine Rn_lload_n dX13_isAsked_86 rfl rfl ?_
  refine Rn_lload_n dX13_isAsked_87 rfl rfl ?_
  refine Rn_lcmp dX13_isAsked_88 ?_
  refine Rn_ifne (tgt := 96) dX13_isAsked_89 rfl ?_ ?_
  · exact fun q => kt (lc_ne q)
  · exact fun q => kf (lc_eq q)
theorem BX13_isAsked_92 {d bc bs : Nat} {h : aH} {n : Nat} {Q : aQ} {x0 x1 x3 : Int} (k : Q (some (vI 1)) h n) : Rn d (bc) (bs) mX13_isAsked 92 [some (vI x0), some (vL x1), none, some (vL x3), none] [] h n Q := by
  refine Rn_iconst dX13_isAsked_92 rfl ?_
  refine Rn_goto (tgt := 111) dX13_isAsked_93 rfl ?_
  exact Rn_zreturn rfl dX13_isAsked_111 (by decide) k
theorem BX13_isAsked_96 {d bc bs : Nat} {h : aH} {n : Nat} {Q : aQ} {x0 x1 x3 : Int} (k : Q (some (vI 0)) h n) : Rn d (bc) (bs) mX13_isAsked 96 [some (vI x0), some (vL x1), none, some (vL x3), none] [] h n Q := by
  refine Rn_iconst dX13_isAsked_96 rfl ?_
  refine Rn_goto (tgt := 111) dX13_isAsked_97 rfl ?_
  exact Rn_zreturn rfl dX13_isAsked_111 (by decide) k
theorem BX13_isAsked_100 {d bc bs : Nat} {h : aH} {n : Nat} {Q : aQ} {x0 x1 x3 : Int} (kt : x1 = x3 → Rn d bc bs mX13_isAsked 110 [some (vI x0), some (vL x1), none, some (vL x3), none] [] h n Q) (kf : x1 ≠ x3 → Rn d bc bs mX13_isAsked 106 [some (vI x0), some (vL x1), none, some (vL x3), none] [] h n Q) : Rn d (bc) (bs) mX13_isAsked 100 [some (vI x0), some (vL x1), none, some (vL x3), none] [] h n Q := by
  refine Rn_lload_n dX13_isAsked_100 rfl rfl ?_
  refine Rn_lload_n dX13_isAsked_101 rfl rfl ?_
  refine Rn_lcmp dX13_isAsked_102 ?_
  refine Rn_ifeq (tgt := 110) dX13_isAsked_103 rfl ?_ ?_
  · exact fun q => kt (lc_eq q)
  · exact fun q => kf (lc_ne q)
theorem BX13_isAsked_106 {d bc bs : Nat} {h : aH} {n : Nat} {Q : aQ} {x0 x1 x3 : Int} (k : Q (some (vI 1)) h n) : Rn d (bc) (bs) mX13_isAsked 106 [some (vI x0), some (vL x1), none, some (vL x3), none] [] h n Q := by
  refine Rn_iconst dX13_isAsked_106 rfl ?_
  refine Rn_goto (tgt := 111) dX13_isAsked_107 rfl ?_
  exact Rn_zreturn rfl dX13_isAsked_111 (by decide) k
theorem BX13_isAsked_110 {d bc bs : Nat} {h : aH} {n : Nat} {Q : aQ} {x0 x1 x3 : Int} (k : Q (some (vI 0)) h n) : Rn d (bc) (bs) mX13_isAsked 110 [some (vI x0), some (vL x1), none, some (vL x3), none] [] h n Q := by
  refine Rn_iconst dX13_isAsked_110 rfl ?_
  exact Rn_zreturn rfl dX13_isAsked_111 (by decide) k
theorem dX13_placesOf_0 : decode cX13_placesOf 0 = .ok (.lload_n 1, 1) := by decide +kernel
theorem dX13_placesOf_1 : decode cX13_placesOf 1 = .ok (.lconst 0, 1) := by decide +kernel
theorem dX13_placesOf_2 : decode cX13_placesOf 2 = .ok (.lcmp, 1) := by decide +kernel
theorem dX13_placesOf_3 : decode cX13_placesOf 3 = .ok (.ifCond .lt 26, 3) := by decide +kernel
theorem dX13_placesOf_6 : decode cX13_placesOf 6 = .ok (.lload_n 1, 1) := by decide +kernel
theorem dX13_placesOf_7 : decode cX13_placesOf 7 = .ok (.aload_n 0, 1) := by decide +kernel
theorem dX13_placesOf_8 : decode cX13_placesOf 8 = .ok (.getfield 7, 3) := by decide +kernel
theorem dX13_placesOf_11 : decode cX13_placesOf 11 = .ok (.iconst 0, 1) := by decide +kernel
theorem dX13_placesOf_12 : decode cX13_placesOf 12 = .ok (.iaload, 1) := by decide +kernel
theorem dX13_placesOf_13 : decode cX13_placesOf 13 = .ok (.i2l, 1) := by decide +kernel
theorem dX13_placesOf_14 : decode cX13_placesOf 14 = .ok (.lcmp, 1) := by decide +kernel
theorem dX13_placesOf_15 : decode cX13_placesOf 15 = .ok (.ifCond .ge 14, 3) := by decide +kernel
theorem dX13_placesOf_18 : decode cX13_placesOf 18 = .ok (.aload_n 0, 1) := by decide +kernel
theorem dX13_placesOf_19 : decode cX13_placesOf 19 = .ok (.lload_n 1, 1) := by decide +kernel
theorem dX13_placesOf_20 : decode cX13_placesOf 20 = .ok (.l2i, 1) := by decide +kernel
theorem dX13_placesOf_21 : decode cX13_placesOf 21 = .ok (.iconst 0, 1) := by decide +kernel
theorem dX13_placesOf_22 : decode cX13_placesOf 22 = .ok (.invokevirtual 267, 3) := by decide +kernel
theorem dX13_placesOf_25 : decode cX13_placesOf 25 = .ok (.i2l, 1) := by decide +kernel
theorem dX13_placesOf_26 : decode cX13_placesOf 26 = .ok (.goto 4, 3) := by decide +kernel
theorem dX13_placesOf_29 : decode cX13_placesOf 29 = .ok (.lconst 0, 1) := by decide +kernel
theorem dX13_placesOf_30 : decode cX13_placesOf 30 = .ok (.lreturn, 1) := by decide +kernel
theorem BX13_placesOf_0 {d bc bs : Nat} {h : aH} {n : Nat} {Q : aQ} {r0 : Option Nat} {x1 : Int} (kt : x1 < 0 → Rn d bc bs mX13_placesOf 29 [some (vR r0), some (vL x1), none] [] h n Q) (kf : 0 ≤ x1 → Rn d bc bs mX13_placesOf 6 [some (vR r0), some (vL x1), none] [] h n Q) : Rn d (bc) (bs) mX13_placesOf 0 [some (vR r0), some (vL x1), none] [] h n Q := by
  refine Rn_lload_n dX13_placesOf_0 rfl rfl ?_
  refine Rn_lconst (x := 0) dX13_placesOf_1 rfl ?_
  refine Rn_lcmp dX13_placesOf_2 ?_
  refine Rn_iflt (tgt := 29) dX13_placesOf_3 rfl ?_ ?_
  · exact fun q => kt (lc_lt q)
  · exact fun q => kf (lc_ge q)
theorem BX13_placesOf_6 {d bc bs : Nat} {h : aH} {n : Nat} {Q : aQ} {ar0 at3 : Nat} {x1 v7 : Int} {f1 : List aV} {w5 : List Int} (h2 : h ar0 = cO 13 f1) (g4 : f1[0]? = some (vR (some at3))) (h6 : h at3 = cI w5) (g8 : w5[(0 : Int).toNat]? = some v7) (kt : v7 ≤ x1 → Rn d bc bs mX13_placesOf 29 [some (vR (some ar0)), some (vL x1), none] [] h n Q) (kf : x1 < v7 → Rn d bc bs mX13_placesOf 18 [some (vR (some ar0)), some (vL x1), none] [] h n Q) : Rn d (bc) (bs) mX13_placesOf 6 [some (vR (some ar0)), some (vL x1), none] [] h n Q := by
  refine Rn_lload_n dX13_placesOf_6 rfl rfl ?_
  refine Rn_aload_n dX13_placesOf_7 rfl rfl rfl ?_
  refine Rn_getfield (ci := 13) (k := 0) dX13_placesOf_8 rfl in_13 (Nat.le_of_ble_eq_true rfl) wd_1352 rfl h2 g4 ?_
  refine Rn_iconst dX13_placesOf_11 rfl ?_
  refine Rn_iaload dX13_placesOf_12 h6 (by decide) g8 ?_
  refine Rn_i2l dX13_placesOf_13 ?_
  refine Rn_lcmp dX13_placesOf_14 ?_
  refine Rn_ifge (tgt := 29) dX13_placesOf_15 rfl ?_ ?_
  · exact fun q => kt (lc_ge q)
  · exact fun q => kf (lc_lt q)
theorem BX13_placesOf_18 {d bc bs : Nat} {h : aH} {n : Nat} {Q : aQ} {ar0 : Nat} {x1 : Int} {f2 : List aV} (b1 : -2147483648 ≤ x1 ∧ x1 < 2147483648) (h3 : h ar0 = cO 13 f2) (k : Rn d 0 0 mX13_own 0 [some (vR (some ar0)), some (vI x1), some (vI 0)] [] h n (fun v h1 n1 => Rn (d + 1) bc bs mX13_placesOf 25 [some (vR (some ar0)), some (vL x1), none] (v.toList ++ []) h1 n1 Q)) : Rn (d + 1) (bc) (bs) mX13_placesOf 18 [some (vR (some ar0)), some (vL x1), none] [] h n Q := by
  refine Rn_aload_n dX13_placesOf_18 rfl rfl rfl ?_
  refine Rn_lload_n dX13_placesOf_19 rfl rfl ?_
  refine Rn_l2i dX13_placesOf_20 ?_
  rw [w32_id b1.1 b1.2]
  refine Rn_iconst dX13_placesOf_21 rfl ?_
  exact Rn_callV (ci := 13) (avs := [vI x1, vI 0]) (st := []) (bc1 := 0) (bs1 := 0) (bc2 := bc) (bs2 := bs) fx_X13_own dX13_placesOf_22 wd_1662 wd_1664 wd_78 rfl h3 rfl (Nat.le_of_ble_eq_true rfl) (Nat.le_of_ble_eq_true rfl) (by omega) (by omega) (ls1 := [some (vR (some ar0)), some (vI x1), some (vI 0)]) rfl k
theorem BX13_placesOf_25 {d bc bs : Nat} {h : aH} {n : Nat} {Q : aQ} {r0 : Option Nat} {x1 s0 : Int} (k : Q (some (vL s0)) h n) : Rn d (bc) (bs) mX13_placesOf 25 [some (vR r0), some (vL x1), none] [vI s0] h n Q := by
  refine Rn_i2l dX13_placesOf_25 ?_
  refine Rn_goto (tgt := 30) dX13_placesOf_26 rfl ?_
  exact Rn_lreturn rfl dX13_placesOf_30 k
theorem BX13_placesOf_29 {d bc bs : Nat} {h : aH} {n : Nat} {Q : aQ} {r0 : Option Nat} {x1 : Int} (k : Q (some (vL 0)) h n) : Rn d (bc) (bs) mX13_placesOf 29 [some (vR r0), some (vL x1), none] [] h n Q := by
  refine Rn_lconst (x := 0) dX13_placesOf_29 rfl ?_
  exact Rn_lreturn rfl dX13_placesOf_30 k
theorem dX13_laterBy_0 : decode cX13_laterBy 0 = .ok (.lload_n 0, 1) := by decide +kernel
theorem dX13_laterBy_1 : decode cX13_laterBy 1 = .ok (.lload_n 2, 1) := by decide +kernel
theorem dX13_laterBy_2 : decode cX13_laterBy 2 = .ok (.lsub, 1) := by decide +kernel
theorem dX13_laterBy_3 : decode cX13_laterBy 3 = .ok (.lstore 4, 2) := by decide +kernel
theorem dX13_laterBy_5 : decode cX13_laterBy 5 = .ok (.lload 4, 2) := by decide +kernel
theorem dX13_laterBy_7 : decode cX13_laterBy 7 = .ok (.lconst 0, 1) := by decide +kernel
theorem dX13_laterBy_8 : decode cX13_laterBy 8 = .ok (.lcmp, 1) := by decide +kernel
theorem dX13_laterBy_9 : decode cX13_laterBy 9 = .ok (.ifCond .ge 7, 3) := by decide +kernel
theorem dX13_laterBy_12 : decode cX13_laterBy 12 = .ok (.lconst 0, 1) := by decide +kernel
theorem dX13_laterBy_13 : decode cX13_laterBy 13 = .ok (.goto 20, 3) := by decide +kernel
theorem dX13_laterBy_16 : decode cX13_laterBy 16 = .ok (.lload 4, 2) := by decide +kernel
theorem dX13_laterBy_18 : decode cX13_laterBy 18 = .ok (.ldc2_w 259, 3) := by decide +kernel
theorem dX13_laterBy_21 : decode cX13_laterBy 21 = .ok (.lcmp, 1) := by decide +kernel
theorem dX13_laterBy_22 : decode cX13_laterBy 22 = .ok (.ifCond .le 9, 3) := by decide +kernel
theorem dX13_laterBy_25 : decode cX13_laterBy 25 = .ok (.ldc2_w 259, 3) := by decide +kernel
theorem dX13_laterBy_28 : decode cX13_laterBy 28 = .ok (.goto 5, 3) := by decide +kernel
theorem dX13_laterBy_31 : decode cX13_laterBy 31 = .ok (.lload 4, 2) := by decide +kernel
theorem dX13_laterBy_33 : decode cX13_laterBy 33 = .ok (.lreturn, 1) := by decide +kernel
theorem BX13_laterBy_0 {d bc bs : Nat} {h : aH} {n : Nat} {Q : aQ} {x0 x2 : Int} {l4 l5 : Option aV} (b1 : -9223372036854775808 ≤ x0 - x2 ∧ x0 - x2 < 9223372036854775808) (kt : 0 ≤ (x0 - x2) → Rn d bc bs mX13_laterBy 16 [some (vL x0), none, some (vL x2), none, some (vL (x0 - x2)), none] [] h n Q) (kf : (x0 - x2) < 0 → Rn d bc bs mX13_laterBy 12 [some (vL x0), none, some (vL x2), none, some (vL (x0 - x2)), none] [] h n Q) : Rn d (bc) (bs) mX13_laterBy 0 [some (vL x0), none, some (vL x2), none, l4, l5] [] h n Q := by
  refine Rn_lload_n dX13_laterBy_0 rfl rfl ?_
  refine Rn_lload_n dX13_laterBy_1 rfl rfl ?_
  refine Rn_lsub dX13_laterBy_2 ?_
  rw [w64_id b1.1 b1.2]
  refine Rn_lstore dX13_laterBy_3 (Nat.le_of_ble_eq_true rfl) rfl rfl ?_
  refine Rn_lload dX13_laterBy_5 rfl ?_
  refine Rn_lconst (x := 0) dX13_laterBy_7 rfl ?_
  refine Rn_lcmp dX13_laterBy_8 ?_
  refine Rn_ifge (tgt := 16) dX13_laterBy_9 rfl ?_ ?_
  · exact fun q => kt (lc_ge q)
  · exact fun q => kf (lc_lt q)
theorem BX13_laterBy_12 {d bc bs : Nat} {h : aH} {n : Nat} {Q : aQ} {x0 x2 x4 : Int} (k : Q (some (vL 0)) h n) : Rn d (bc) (bs) mX13_laterBy 12 [some (vL x0), none, some (vL x2), none, some (vL x4), none] [] h n Q := by
  refine Rn_lconst (x := 0) dX13_laterBy_12 rfl ?_
  refine Rn_goto (tgt := 33) dX13_laterBy_13 rfl ?_
  exact Rn_lreturn rfl dX13_laterBy_33 k
theorem BX13_laterBy_16 {d bc bs : Nat} {h : aH} {n : Nat} {Q : aQ} {x0 x2 x4 : Int} (kt : x4 ≤ 1000000 → Rn d bc bs mX13_laterBy 31 [some (vL x0), none, some (vL x2), none, some (vL x4), none] [] h n Q) (kf : 1000000 < x4 → Rn d bc bs mX13_laterBy 25 [some (vL x0), none, some (vL x2), none, some (vL x4), none] [] h n Q) : Rn d (bc) (bs) mX13_laterBy 16 [some (vL x0), none, some (vL x2), none, some (vL x4), none] [] h n Q := by
  refine Rn_lload dX13_laterBy_16 rfl ?_
  refine Rn_ldc2 (x := 1000000) dX13_laterBy_18 wd_1753 rfl ?_
  refine Rn_lcmp dX13_laterBy_21 ?_
  refine Rn_ifle (tgt := 31) dX13_laterBy_22 rfl ?_ ?_
  · exact fun q => kt (lc_le q)
  · exact fun q => kf (lc_gt q)
theorem BX13_laterBy_25 {d bc bs : Nat} {h : aH} {n : Nat} {Q : aQ} {x0 x2 x4 : Int} (k : Q (some (vL 1000000)) h n) : Rn d (bc) (bs) mX13_laterBy 25 [some (vL x0), none, some (vL x2), none, some (vL x4), none] [] h n Q := by
  refine Rn_ldc2 (x := 1000000) dX13_laterBy_25 wd_1753 rfl ?_
  refine Rn_goto (tgt := 33) dX13_laterBy_28 rfl ?_
  exact Rn_lreturn rfl dX13_laterBy_33 k
theorem BX13_laterBy_31 {d bc bs : Nat} {h : aH} {n : Nat} {Q : aQ} {x0 x2 x4 : Int} (k : Q (some (vL x4)) h n) : Rn d (bc) (bs) mX13_laterBy 31 [some (vL x0), none, some (vL x2), none, some (vL x4), none] [] h n Q := by
  refine Rn_lload dX13_laterBy_31 rfl ?_
  exact Rn_lreturn rfl dX13_laterBy_33 k
theorem dX13_joined_0 : decode cX13_joined 0 = .ok (.iload_n 0, 1) := by decide +kernel
theorem dX13_joined_1 : decode cX13_joined 1 = .ok (.bipush 21, 2) := by decide +kernel
theorem dX13_joined_3 : decode cX13_joined 3 = .ok (.if_icmp .ne 19, 3) := by decide +kernel
theorem dX13_joined_6 : decode cX13_joined 6 = .ok (.iload_n 1, 1) := by decide +kernel
theorem dX13_joined_7 : decode cX13_joined 7 = .ok (.ifCond .eq 11, 3) := by decide +kernel
theorem dX13_joined_10 : decode cX13_joined 10 = .ok (.iload_n 2, 1) := by decide +kernel
theorem dX13_joined_11 : decode cX13_joined 11 = .ok (.ifCond .eq 7, 3) := by decide +kernel
theorem dX13_joined_14 : decode cX13_joined 14 = .ok (.iconst 1, 1) := by decide +kernel
theorem dX13_joined_15 : decode cX13_joined 15 = .ok (.goto 20, 3) := by decide +kernel
theorem dX13_joined_18 : decode cX13_joined 18 = .ok (.iconst 0, 1) := by decide +kernel
theorem dX13_joined_19 : decode cX13_joined 19 = .ok (.goto 16, 3) := by decide +kernel
theorem dX13_joined_22 : decode cX13_joined 22 = .ok (.iload_n 1, 1) := by decide +kernel
theorem dX13_joined_23 : decode cX13_joined 23 = .ok (.ifCond .ne 7, 3) := by decide +kernel
theorem dX13_joined_26 : decode cX13_joined 26 = .ok (.iload_n 2, 1) := by decide +kernel
theorem dX13_joined_27 : decode cX13_joined 27 = .ok (.ifCond .eq 7, 3) := by decide +kernel
theorem dX13_joined_30 : decode cX13_joined 30 = .ok (.iconst 1, 1) := by decide +kernel
theorem dX13_joined_31 : decode cX13_joined 31 = .ok (.goto 4, 3) := by decide +kernel
theorem dX13_joined_34 : decode cX13_joined 34 = .ok (.iconst 0, 1) := by decide +kernel
theorem dX13_joined_35 : decode cX13_joined 35 = .ok (.ireturn, 1) := by decide +kernel
theorem BX13_joined_0 {d bc bs : Nat} {h : aH} {n : Nat} {Q : aQ} {x0 x1 x2 : Int} (kt : x0 ≠ 21 → Rn d bc bs mX13_joined 22 [some (vI x0), some (vI x1), some (vI x2)] [] h n Q) (kf : x0 = 21 → Rn d bc bs mX13_joined 6 [some (vI x0), some (vI x1), some (vI x2)] [] h n Q) : Rn d (bc) (bs) mX13_joined 0 [some (vI x0), some (vI x1), some (vI x2)] [] h n Q := by
  refine Rn_iload_n dX13_joined_0 rfl rfl ?_
  refine Rn_bipush dX13_joined_1 rfl ?_
  refine Rn_icmpne (tgt := 22) dX13_joined_3 rfl ?_ ?_
  · exact kt
  · exact kf
theorem BX13_joined_6 {d bc bs : Nat} {h : aH} {n : Nat} {Q : aQ} {x0 x1 x2 : Int} (kt : x1 = 0 → Rn d bc bs mX13_joined 18 [some (vI x0), some (vI x1), some (vI x2)] [] h n Q) (kf : x1 ≠ 0 → Rn d bc bs mX13_joined 10 [some (vI x0), some (vI x1), some (vI x2)] [] h n Q) : Rn d (bc) (bs) mX13_joined 6 [some (vI x0), some (vI x1), some (vI x2)] [] h n Q := by
  refine Rn_iload_n dX13_joined_6 rfl rfl ?_
  refine Rn_ifeq (tgt := 18) dX13_joined_7 rfl ?_ ?_
  · exact kt
  · exact kf
theorem BX13_joined_10 {d bc bs : Nat} {h : aH} {n : Nat} {Q : aQ} {x0 x1 x2 : Int} (kt : x2 = 0 → Rn d bc bs mX13_joined 18 [some (vI x0), some (vI x1), some (vI x2)] [] h n Q) (kf : x2 ≠ 0 → Rn d bc bs mX13_joined 14 [some (vI x0), some (vI x1), some (vI x2)] [] h n Q) : Rn d (bc) (bs) mX13_joined 10 [some (vI x0), some (vI x1), some (vI x2)] [] h n Q := by
  refine Rn_iload_n dX13_joined_10 rfl rfl ?_
  refine Rn_ifeq (tgt := 18) dX13_joined_11 rfl ?_ ?_
  · exact kt
  · exact kf
theorem BX13_joined_14 {d bc bs : Nat} {h : aH} {n : Nat} {Q : aQ} {x0 x1 x2 : Int} (k : Q (some (vI 1)) h n) : Rn d (bc) (bs) mX13_joined 14 [some (vI x0), some (vI x1), some (vI x2)] [] h n Q := by
  refine Rn_iconst dX13_joined_14 rfl ?_
  refine Rn_goto (tgt := 35) dX13_joined_15 rfl ?_
  exact Rn_zreturn rfl dX13_joined_35 (by decide) k
theorem BX13_joined_18 {d bc bs : Nat} {h : aH} {n : Nat} {Q : aQ} {x0 x1 x2 : Int} (k : Q (some (vI 0)) h n) : Rn d (bc) (bs) mX13_joined 18 [some (vI x0), some (vI x1), some (vI x2)] [] h n Q := by
  refine Rn_iconst dX13_joined_18 rfl ?_
  refine Rn_goto (tgt := 35) dX13_joined_19 rfl ?_
  exact Rn_zreturn rfl dX13_joined_35 (by decide) k
theorem BX13_joined_22 {d bc bs : Nat} {h : aH} {n : Nat} {Q : aQ} {x0 x1 x2 : Int} (kt : x1 ≠ 0 → Rn d bc bs mX13_joined 30 [some (vI x0), some (vI x1), some (vI x2)] [] h n Q) (kf : x1 = 0 → Rn d bc bs mX13_joined 26 [some (vI x0), some (vI x1), some (vI x2)] [] h n Q) : Rn d (bc) (bs) mX13_joined 22 [some (vI x0), some (vI x1), some (vI x2)] [] h n Q := by
  refine Rn_iload_n dX13_joined_22 rfl rfl ?_
  refine Rn_ifne (tgt := 30) dX13_joined_23 rfl ?_ ?_
  · exact kt
  · exact kf
theorem BX13_joined_26 {d bc bs : Nat} {h : aH} {n : Nat} {Q : aQ} {x0 x1 x2 : Int} (kt : x2 = 0 → Rn d bc bs mX13_joined 34 [some (vI x0), some (vI x1), some (vI x2)] [] h n Q) (kf : x2 ≠ 0 → Rn d bc bs mX13_joined 30 [some (vI x0), some (vI x1), some (vI x2)] [] h n Q) : Rn d (bc) (bs) mX13_joined 26 [some (vI x0), some (vI x1), some (vI x2)] [] h n Q := by
  refine Rn_iload_n dX13_joined_26 rfl rfl ?_
  refine Rn_ifeq (tgt := 34) dX13_joined_27 rfl ?_ ?_
  · exact kt
  · exact kf
theorem BX13_joined_30 {d bc bs : Nat} {h : aH} {n : Nat} {Q : aQ} {x0 x1 x2 : Int} (k : Q (some (vI 1)) h n) : Rn d (bc) (bs) mX13_joined 30 [some (vI x0), some (vI x1), some (vI x2)] [] h n Q := by
  refine Rn_iconst dX13_joined_30 rfl ?_
  refine Rn_goto (tgt := 35) dX13_joined_31 rfl ?_
  exact Rn_zreturn rfl dX13_joined_35 (by decide) k
theorem BX13_joined_34 {d bc bs : Nat} {h : aH} {n : Nat} {Q : aQ} {x0 x1 x2 : Int} (k : Q (some (vI 0)) h n) : Rn d (bc) (bs) mX13_joined 34 [some (vI x0), some (vI x1), some (vI x2)] [] h n Q := by
  refine Rn_iconst dX13_joined_34 rfl ?_
  exact Rn_zreturn rfl dX13_joined_35 (by decide) k
theorem dX13_summedUp_0 : decode cX13_summedUp 0 = .ok (.sipush 705, 3) := by decide +kernel
theorem dX13_summedUp_3 : decode cX13_summedUp 3 = .ok (.iload_n 1, 1) := by decide +kernel
theorem dX13_summedUp_4 : decode cX13_summedUp 4 = .ok (.imul, 1) := by decide +kernel
theorem dX13_summedUp_5 : decode cX13_summedUp 5 = .ok (.iconst 1, 1) := by decide +kernel
theorem dX13_summedUp_6 : decode cX13_summedUp 6 = .ok (.iadd, 1) := by decide +kernel
theorem dX13_summedUp_7 : decode cX13_summedUp 7 = .ok (.iconst 4, 1) := by decide +kernel
theorem dX13_summedUp_8 : decode cX13_summedUp 8 = .ok (.iload_n 2, 1) := by decide +kernel
theorem dX13_summedUp_9 : decode cX13_summedUp 9 = .ok (.imul, 1) := by decide +kernel
theorem dX13_summedUp_10 : decode cX13_summedUp 10 = .ok (.iadd, 1) := by decide +kernel
theorem dX13_summedUp_11 : decode cX13_summedUp 11 = .ok (.istore_n 3, 1) := by decide +kernel
theorem dX13_summedUp_12 : decode cX13_summedUp 12 = .ok (.sipush 705, 3) := by decide +kernel
theorem dX13_summedUp_15 : decode cX13_summedUp 15 = .ok (.iload_n 1, 1) := by decide +kernel
theorem dX13_summedUp_16 : decode cX13_summedUp 16 = .ok (.imul, 1) := by decide +kernel
theorem dX13_summedUp_17 : decode cX13_summedUp 17 = .ok (.bipush 97, 2) := by decide +kernel
theorem dX13_summedUp_19 : decode cX13_summedUp 19 = .ok (.iadd, 1) := by decide +kernel
theorem dX13_summedUp_20 : decode cX13_summedUp 20 = .ok (.istore 4, 2) := by decide +kernel
theorem dX13_summedUp_22 : decode cX13_summedUp 22 = .ok (.iconst 0, 1) := by decide +kernel
theorem dX13_summedUp_23 : decode cX13_summedUp 23 = .ok (.istore 5, 2) := by decide +kernel
theorem dX13_summedUp_25 : decode cX13_summedUp 25 = .ok (.iconst 0, 1) := by decide +kernel
theorem dX13_summedUp_26 : decode cX13_summedUp 26 = .ok (.istore 6, 2) := by decide +kernel
theorem dX13_summedUp_28 : decode cX13_summedUp 28 = .ok (.aload_n 0, 1) := by decide +kernel
theorem dX13_summedUp_29 : decode cX13_summedUp 29 = .ok (.getfield 16, 3) := by decide +kernel
theorem dX13_summedUp_32 : decode cX13_summedUp 32 = .ok (.iload_n 3, 1) := by decide +kernel
theorem dX13_summedUp_33 : decode cX13_summedUp 33 = .ok (.iconst 1, 1) := by decide +kernel
theorem dX13_summedUp_34 : decode cX13_summedUp 34 = .ok (.iadd, 1) := by decide +kernel
theorem dX13_summedUp_35 : decode cX13_summedUp 35 = .ok (.iaload, 1) := by decide +kernel
theorem dX13_summedUp_36 : decode cX13_summedUp 36 = .ok (.istore 7, 2) := by decide +kernel
theorem dX13_summedUp_38 : decode cX13_summedUp 38 = .ok (.iload 7, 2) := by decide +kernel
theorem dX13_summedUp_40 : decode cX13_summedUp 40 = .ok (.aload_n 0, 1) := by decide +kernel
theorem dX13_summedUp_41 : decode cX13_summedUp 41 = .ok (.getfield 16, 3) := by decide +kernel
theorem dX13_summedUp_44 : decode cX13_summedUp 44 = .ok (.iload_n 3, 1) := by decide +kernel
theorem dX13_summedUp_45 : decode cX13_summedUp 45 = .ok (.iconst 2, 1) := by decide +kernel
theorem dX13_summedUp_46 : decode cX13_summedUp 46 = .ok (.iadd, 1) := by decide +kernel
theorem dX13_summedUp_47 : decode cX13_summedUp 47 = .ok (.iaload, 1) := by decide +kernel
theorem dX13_summedUp_48 : decode cX13_summedUp 48 = .ok (.if_icmp .ge 358, 3) := by decide +kernel
theorem dX13_summedUp_51 : decode cX13_summedUp 51 = .ok (.aload_n 0, 1) := by decide +kernel
theorem dX13_summedUp_52 : decode cX13_summedUp 52 = .ok (.getfield 16, 3) := by decide +kernel
theorem dX13_summedUp_55 : decode cX13_summedUp 55 = .ok (.iload 4, 2) := by decide +kernel
theorem dX13_summedUp_57 : decode cX13_summedUp 57 = .ok (.iconst 2, 1) := by decide +kernel
theorem dX13_summedUp_58 : decode cX13_summedUp 58 = .ok (.iload 7, 2) := by decide +kernel
theorem dX13_summedUp_60 : decode cX13_summedUp 60 = .ok (.imul, 1) := by decide +kernel
theorem dX13_summedUp_61 : decode cX13_summedUp 61 = .ok (.iadd, 1) := by decide +kernel
theorem dX13_summedUp_62 : decode cX13_summedUp 62 = .ok (.iaload, 1) := by decide +kernel
theorem dX13_summedUp_63 : decode cX13_summedUp 63 = .ok (.istore 8, 2) := by decide +kernel
theorem dX13_summedUp_65 : decode cX13_summedUp 65 = .ok (.aload_n 0, 1) := by decide +kernel
theorem dX13_summedUp_66 : decode cX13_summedUp 66 = .ok (.getfield 16, 3) := by decide +kernel
theorem dX13_summedUp_69 : decode cX13_summedUp 69 = .ok (.iload 4, 2) := by decide +kernel
theorem dX13_summedUp_71 : decode cX13_summedUp 71 = .ok (.iconst 2, 1) := by decide +kernel
theorem dX13_summedUp_72 : decode cX13_summedUp 72 = .ok (.iload 7, 2) := by decide +kernel
theorem dX13_summedUp_74 : decode cX13_summedUp 74 = .ok (.imul, 1) := by decide +kernel
theorem dX13_summedUp_75 : decode cX13_summedUp 75 = .ok (.iadd, 1) := by decide +kernel
theorem dX13_summedUp_76 : decode cX13_summedUp 76 = .ok (.iconst 1, 1) := by decide +kernel
theorem dX13_summedUp_77 : decode cX13_summedUp 77 = .ok (.iadd, 1) := by decide +kernel
theorem dX13_summedUp_78 : decode cX13_summedUp 78 = .ok (.iaload, 1) := by decide +kernel
theorem dX13_summedUp_79 : decode cX13_summedUp 79 = .ok (.istore 9, 2) := by decide +kernel
theorem dX13_summedUp_81 : decode cX13_summedUp 81 = .ok (.iload 8, 2) := by decide +kernel
theorem dX13_summedUp_83 : decode cX13_summedUp 83 = .ok (.iconst 1, 1) := by decide +kernel
theorem dX13_summedUp_84 : decode cX13_summedUp 84 = .ok (.if_icmp .gt 35, 3) := by decide +kernel
theorem dX13_summedUp_87 : decode cX13_summedUp 87 = .ok (.aload_n 0, 1) := by decide +kernel
theorem dX13_summedUp_88 : decode cX13_summedUp 88 = .ok (.getfield 35, 3) := by decide +kernel
theorem dX13_summedUp_91 : decode cX13_summedUp 91 = .ok (.iload 5, 2) := by decide +kernel
theorem dX13_summedUp_93 : decode cX13_summedUp 93 = .ok (.iload 8, 2) := by decide +kernel
theorem dX13_summedUp_95 : decode cX13_summedUp 95 = .ok (.ifCond .ne 9, 3) := by decide +kernel
theorem dX13_summedUp_98 : decode cX13_summedUp 98 = .ok (.iload 9, 2) := by decide +kernel
theorem dX13_summedUp_100 : decode cX13_summedUp 100 = .ok (.i2l, 1) := by decide +kernel
theorem dX13_summedUp_101 : decode cX13_summedUp 101 = .ok (.goto 11, 3) := by decide +kernel
theorem dX13_summedUp_104 : decode cX13_summedUp 104 = .ok (.aload_n 0, 1) := by decide +kernel
theorem dX13_summedUp_105 : decode cX13_summedUp 105 = .ok (.getfield 32, 3) := by decide +kernel
theorem dX13_summedUp_108 : decode cX13_summedUp 108 = .ok (.iload 9, 2) := by decide +kernel
theorem dX13_summedUp_110 : decode cX13_summedUp 110 = .ok (.iaload, 1) := by decide +kernel
theorem dX13_summedUp_111 : decode cX13_summedUp 111 = .ok (.i2l, 1) := by decide +kernel
theorem dX13_summedUp_112 : decode cX13_summedUp 112 = .ok (.lastore, 1) := by decide +kernel
theorem dX13_summedUp_113 : decode cX13_summedUp 113 = .ok (.iinc 5 1, 3) := by decide +kernel
theorem dX13_summedUp_116 : decode cX13_summedUp 116 = .ok (.goto 284, 3) := by decide +kernel
theorem dX13_summedUp_119 : decode cX13_summedUp 119 = .ok (.iload 8, 2) := by decide +kernel
theorem dX13_summedUp_121 : decode cX13_summedUp 121 = .ok (.iconst 3, 1) := by decide +kernel
theorem dX13_summedUp_122 : decode cX13_summedUp 122 = .ok (.if_icmp .ne 38, 3) := by decide +kernel
theorem dX13_summedUp_125 : decode cX13_summedUp 125 = .ok (.iinc 5 (-1), 3) := by decide +kernel
theorem dX13_summedUp_128 : decode cX13_summedUp 128 = .ok (.iinc 6 (-1), 3) := by decide +kernel
theorem dX13_summedUp_131 : decode cX13_summedUp 131 = .ok (.aload_n 0, 1) := by decide +kernel
theorem dX13_summedUp_132 : decode cX13_summedUp 132 = .ok (.getfield 39, 3) := by decide +kernel
theorem dX13_summedUp_135 : decode cX13_summedUp 135 = .ok (.iload 6, 2) := by decide +kernel
theorem dX13_summedUp_137 : decode cX13_summedUp 137 = .ok (.baload, 1) := by decide +kernel
theorem dX13_summedUp_138 : decode cX13_summedUp 138 = .ok (.ifCond .ne 262, 3) := by decide +kernel
theorem dX13_summedUp_141 : decode cX13_summedUp 141 = .ok (.aload_n 0, 1) := by decide +kernel
theorem dX13_summedUp_142 : decode cX13_summedUp 142 = .ok (.getfield 35, 3) := by decide +kernel
theorem dX13_summedUp_145 : decode cX13_summedUp 145 = .ok (.iload 5, 2) := by decide +kernel
theorem dX13_summedUp_147 : decode cX13_summedUp 147 = .ok (.iconst 1, 1) := by decide +kernel
theorem dX13_summedUp_148 : decode cX13_summedUp 148 = .ok (.isub, 1) := by decide +kernel
theorem dX13_summedUp_149 : decode cX13_summedUp 149 = .ok (.aload_n 0, 1) := by decide +kernel
theorem dX13_summedUp_150 : decode cX13_summedUp 150 = .ok (.getfield 35, 3) := by decide +kernel
theorem dX13_summedUp_153 : decode cX13_summedUp 153 = .ok (.iload 5, 2) := by decide +kernel
theorem dX13_summedUp_155 : decode cX13_summedUp 155 = .ok (.laload, 1) := by decide +kernel
theorem dX13_summedUp_156 : decode cX13_summedUp 156 = .ok (.lastore, 1) := by decide +kernel
theorem dX13_summedUp_157 : decode cX13_summedUp 157 = .ok (.goto 243, 3) := by decide +kernel
theorem dX13_summedUp_160 : decode cX13_summedUp 160 = .ok (.iload 8, 2) := by decide +kernel
theorem dX13_summedUp_162 : decode cX13_summedUp 162 = .ok (.iconst 5, 1) := by decide +kernel
theorem dX13_summedUp_163 : decode cX13_summedUp 163 = .ok (.if_icmp .eq 9, 3) := by decide +kernel
theorem dX13_summedUp_166 : decode cX13_summedUp 166 = .ok (.iload 8, 2) := by decide +kernel
theorem dX13_summedUp_168 : decode cX13_summedUp 168 = .ok (.iconst 2, 1) := by decide +kernel
theorem dX13_summedUp_169 : decode cX13_summedUp 169 = .ok (.if_icmp .ne 47, 3) := by decide +kernel
theorem dX13_summedUp_172 : decode cX13_summedUp 172 = .ok (.aload_n 0, 1) := by decide +kernel
theorem dX13_summedUp_173 : decode cX13_summedUp 173 = .ok (.getfield 35, 3) := by decide +kernel
theorem dX13_summedUp_176 : decode cX13_summedUp 176 = .ok (.iload 5, 2) := by decide +kernel
theorem dX13_summedUp_178 : decode cX13_summedUp 178 = .ok (.iconst 1, 1) := by decide +kernel
theorem dX13_summedUp_179 : decode cX13_summedUp 179 = .ok (.isub, 1) := by decide +kernel
theorem dX13_summedUp_180 : decode cX13_summedUp 180 = .ok (.iload 8, 2) := by decide +kernel
theorem dX13_summedUp_182 : decode cX13_summedUp 182 = .ok (.iconst 5, 1) := by decide +kernel
theorem dX13_summedUp_183 : decode cX13_summedUp 183 = .ok (.if_icmp .ne 16, 3) := by decide +kernel
theorem dX13_summedUp_186 : decode cX13_summedUp 186 = .ok (.aload_n 0, 1) := by decide +kernel
theorem dX13_summedUp_187 : decode cX13_summedUp 187 = .ok (.getfield 35, 3) := by decide +kernel
theorem dX13_summedUp_190 : decode cX13_summedUp 190 = .ok (.iload 5, 2) := by decide +kernel
theorem dX13_summedUp_192 : decode cX13_summedUp 192 = .ok (.iconst 1, 1) := by decide +kernel
theorem dX13_summedUp_193 : decode cX13_summedUp 193 = .ok (.isub, 1) := by decide +kernel
theorem dX13_summedUp_194 : decode cX13_summedUp 194 = .ok (.laload, 1) := by decide +kernel
theorem dX13_summedUp_195 : decode cX13_summedUp 195 = .ok (.lneg, 1) := by decide +kernel
theorem dX13_summedUp_196 : decode cX13_summedUp 196 = .ok (.goto 16, 3) := by decide +kernel
theorem dX13_summedUp_199 : decode cX13_summedUp 199 = .ok (.aload_n 0, 1) := by decide +kernel
theorem dX13_summedUp_200 : decode cX13_summedUp 200 = .ok (.aload_n 0, 1) := by decide +kernel
theorem dX13_summedUp_201 : decode cX13_summedUp 201 = .ok (.getfield 35, 3) := by decide +kernel
theorem dX13_summedUp_204 : decode cX13_summedUp 204 = .ok (.iload 5, 2) := by decide +kernel
theorem dX13_summedUp_206 : decode cX13_summedUp 206 = .ok (.iconst 1, 1) := by decide +kernel
theorem dX13_summedUp_207 : decode cX13_summedUp 207 = .ok (.isub, 1) := by decide +kernel
theorem dX13_summedUp_208 : decode cX13_summedUp 208 = .ok (.laload, 1) := by decide +kernel
theorem dX13_summedUp_209 : decode cX13_summedUp 209 = .ok (.invokevirtual 270, 3) := by decide +kernel
theorem dX13_summedUp_212 : decode cX13_summedUp 212 = .ok (.lastore, 1) := by decide +kernel
theorem dX13_summedUp_213 : decode cX13_summedUp 213 = .ok (.goto 187, 3) := by decide +kernel
theorem dX13_summedUp_216 : decode cX13_summedUp 216 = .ok (.iload 8, 2) := by decide +kernel
theorem dX13_summedUp_218 : decode cX13_summedUp 218 = .ok (.bipush 10, 2) := by decide +kernel
theorem dX13_summedUp_220 : decode cX13_summedUp 220 = .ok (.if_icmp .ge 67, 3) := by decide +kernel
theorem dX13_summedUp_223 : decode cX13_summedUp 223 = .ok (.iinc 5 (-1), 3) := by decide +kernel
theorem dX13_summedUp_226 : decode cX13_summedUp 226 = .ok (.aload_n 0, 1) := by decide +kernel
theorem dX13_summedUp_227 : decode cX13_summedUp 227 = .ok (.getfield 35, 3) := by decide +kernel
theorem dX13_summedUp_230 : decode cX13_summedUp 230 = .ok (.iload 5, 2) := by decide +kernel
theorem dX13_summedUp_232 : decode cX13_summedUp 232 = .ok (.iconst 1, 1) := by decide +kernel
theorem dX13_summedUp_233 : decode cX13_summedUp 233 = .ok (.isub, 1) := by decide +kernel
theorem dX13_summedUp_234 : decode cX13_summedUp 234 = .ok (.iload 8, 2) := by decide +kernel
theorem dX13_summedUp_236 : decode cX13_summedUp 236 = .ok (.iconst 4, 1) := by decide +kernel
theorem dX13_summedUp_237 : decode cX13_summedUp 237 = .ok (.if_icmp .ne 25, 3) := by decide +kernel
theorem dX13_summedUp_240 : decode cX13_summedUp 240 = .ok (.aload_n 0, 1) := by decide +kernel
theorem dX13_summedUp_241 : decode cX13_summedUp 241 = .ok (.getfield 35, 3) := by decide +kernel
theorem dX13_summedUp_244 : decode cX13_summedUp 244 = .ok (.iload 5, 2) := by decide +kernel
theorem dX13_summedUp_246 : decode cX13_summedUp 246 = .ok (.iconst 1, 1) := by decide +kernel
theorem dX13_summedUp_247 : decode cX13_summedUp 247 = .ok (.isub, 1) := by decide +kernel
theorem dX13_summedUp_248 : decode cX13_summedUp 248 = .ok (.laload, 1) := by decide +kernel
theorem dX13_summedUp_249 : decode cX13_summedUp 249 = .ok (.aload_n 0, 1) := by decide +kernel
theorem dX13_summedUp_250 : decode cX13_summedUp 250 = .ok (.getfield 35, 3) := by decide +kernel
theorem dX13_summedUp_253 : decode cX13_summedUp 253 = .ok (.iload 5, 2) := by decide +kernel
theorem dX13_summedUp_255 : decode cX13_summedUp 255 = .ok (.laload, 1) := by decide +kernel
theorem dX13_summedUp_256 : decode cX13_summedUp 256 = .ok (.invokestatic 273, 3) := by decide +kernel
theorem dX13_summedUp_259 : decode cX13_summedUp 259 = .ok (.goto 24, 3) := by decide +kernel
theorem dX13_summedUp_262 : decode cX13_summedUp 262 = .ok (.iload 8, 2) := by decide +kernel
theorem dX13_summedUp_264 : decode cX13_summedUp 264 = .ok (.aload_n 0, 1) := by decide +kernel
theorem dX13_summedUp_265 : decode cX13_summedUp 265 = .ok (.getfield 35, 3) := by decide +kernel
theorem dX13_summedUp_268 : decode cX13_summedUp 268 = .ok (.iload 5, 2) := by decide +kernel
theorem dX13_summedUp_270 : decode cX13_summedUp 270 = .ok (.iconst 1, 1) := by decide +kernel
theorem dX13_summedUp_271 : decode cX13_summedUp 271 = .ok (.isub, 1) := by decide +kernel
theorem dX13_summedUp_272 : decode cX13_summedUp 272 = .ok (.laload, 1) := by decide +kernel
theorem dX13_summedUp_273 : decode cX13_summedUp 273 = .ok (.aload_n 0, 1) := by decide +kernel
theorem dX13_summedUp_274 : decode cX13_summedUp 274 = .ok (.getfield 35, 3) := by decide +kernel
theorem dX13_summedUp_277 : decode cX13_summedUp 277 = .ok (.iload 5, 2) := by decide +kernel
theorem dX13_summedUp_279 : decode cX13_summedUp 279 = .ok (.laload, 1) := by decide +kernel
theorem dX13_summedUp_280 : decode cX13_summedUp 280 = .ok (.invokestatic 277, 3) := by decide +kernel
theorem dX13_summedUp_283 : decode cX13_summedUp 283 = .ok (.lastore, 1) := by decide +kernel
theorem dX13_summedUp_284 : decode cX13_summedUp 284 = .ok (.goto 116, 3) := by decide +kernel
theorem dX13_summedUp_287 : decode cX13_summedUp 287 = .ok (.iload 8, 2) := by decide +kernel
theorem dX13_summedUp_289 : decode cX13_summedUp 289 = .ok (.bipush 20, 2) := by decide +kernel
theorem dX13_summedUp_291 : decode cX13_summedUp 291 = .ok (.if_icmp .ge 40, 3) := by decide +kernel
theorem dX13_summedUp_294 : decode cX13_summedUp 294 = .ok (.iinc 5 (-2), 3) := by decide +kernel
theorem dX13_summedUp_297 : decode cX13_summedUp 297 = .ok (.aload_n 0, 1) := by decide +kernel
theorem dX13_summedUp_298 : decode cX13_summedUp 298 = .ok (.getfield 39, 3) := by decide +kernel
theorem dX13_summedUp_301 : decode cX13_summedUp 301 = .ok (.iload 6, 2) := by decide +kernel
theorem dX13_summedUp_303 : decode cX13_summedUp 303 = .ok (.iload 8, 2) := by decide +kernel
theorem dX13_summedUp_305 : decode cX13_summedUp 305 = .ok (.aload_n 0, 1) := by decide +kernel
theorem dX13_summedUp_306 : decode cX13_summedUp 306 = .ok (.getfield 35, 3) := by decide +kernel
theorem dX13_summedUp_309 : decode cX13_summedUp 309 = .ok (.iload 5, 2) := by decide +kernel
theorem dX13_summedUp_311 : decode cX13_summedUp 311 = .ok (.laload, 1) := by decide +kernel
theorem dX13_summedUp_312 : decode cX13_summedUp 312 = .ok (.aload_n 0, 1) := by decide +kernel
theorem dX13_summedUp_313 : decode cX13_summedUp 313 = .ok (.getfield 35, 3) := by decide +kernel
theorem dX13_summedUp_316 : decode cX13_summedUp 316 = .ok (.iload 5, 2) := by decide +kernel
theorem dX13_summedUp_318 : decode cX13_summedUp 318 = .ok (.iconst 1, 1) := by decide +kernel
theorem dX13_summedUp_319 : decode cX13_summedUp 319 = .ok (.iadd, 1) := by decide +kernel
theorem dX13_summedUp_320 : decode cX13_summedUp 320 = .ok (.laload, 1) := by decide +kernel
theorem dX13_summedUp_321 : decode cX13_summedUp 321 = .ok (.invokestatic 281, 3) := by decide +kernel
theorem dX13_summedUp_324 : decode cX13_summedUp 324 = .ok (.bastore, 1) := by decide +kernel
theorem dX13_summedUp_325 : decode cX13_summedUp 325 = .ok (.iinc 6 1, 3) := by decide +kernel
theorem dX13_summedUp_328 : decode cX13_summedUp 328 = .ok (.goto 72, 3) := by decide +kernel
theorem dX13_summedUp_331 : decode cX13_summedUp 331 = .ok (.iload 8, 2) := by decide +kernel
theorem dX13_summedUp_333 : decode cX13_summedUp 333 = .ok (.bipush 20, 2) := by decide +kernel
theorem dX13_summedUp_335 : decode cX13_summedUp 335 = .ok (.if_icmp .ne 32, 3) := by decide +kernel
theorem dX13_summedUp_338 : decode cX13_summedUp 338 = .ok (.aload_n 0, 1) := by decide +kernel
theorem dX13_summedUp_339 : decode cX13_summedUp 339 = .ok (.getfield 39, 3) := by decide +kernel
theorem dX13_summedUp_342 : decode cX13_summedUp 342 = .ok (.iload 6, 2) := by decide +kernel
theorem dX13_summedUp_344 : decode cX13_summedUp 344 = .ok (.iconst 1, 1) := by decide +kernel
theorem dX13_summedUp_345 : decode cX13_summedUp 345 = .ok (.isub, 1) := by decide +kernel
theorem dX13_summedUp_346 : decode cX13_summedUp 346 = .ok (.aload_n 0, 1) := by decide +kernel
theorem dX13_summedUp_347 : decode cX13_summedUp 347 = .ok (.getfield 39, 3) := by decide +kernel
theorem dX13_summedUp_350 : decode cX13_summedUp 350 = .ok (.iload 6, 2) := by decide +kernel
theorem dX13_summedUp_352 : decode cX13_summedUp 352 = .ok (.iconst 1, 1) := by decide +kernel
theorem dX13_summedUp_353 : decode cX13_summedUp 353 = .ok (.isub, 1) := by decide +kernel
theorem dX13_summedUp_354 : decode cX13_summedUp 354 = .ok (.baload, 1) := by decide +kernel
theorem dX13_summedUp_355 : decode cX13_summedUp 355 = .ok (.ifCond .ne 7, 3) := by decide +kernel
theorem dX13_summedUp_358 : decode cX13_summedUp 358 = .ok (.iconst 1, 1) := by decide +kernel
theorem dX13_summedUp_359 : decode cX13_summedUp 359 = .ok (.goto 4, 3) := by decide +kernel
theorem dX13_summedUp_362 : decode cX13_summedUp 362 = .ok (.iconst 0, 1) := by decide +kernel
theorem dX13_summedUp_363 : decode cX13_summedUp 363 = .ok (.bastore, 1) := by decide +kernel
theorem dX13_summedUp_364 : decode cX13_summedUp 364 = .ok (.goto 36, 3) := by decide +kernel
theorem dX13_summedUp_367 : decode cX13_summedUp 367 = .ok (.iinc 6 (-1), 3) := by decide +kernel
theorem dX13_summedUp_370 : decode cX13_summedUp 370 = .ok (.aload_n 0, 1) := by decide +kernel
theorem dX13_summedUp_371 : decode cX13_summedUp 371 = .ok (.getfield 39, 3) := by decide +kernel
theorem dX13_summedUp_374 : decode cX13_summedUp 374 = .ok (.iload 6, 2) := by decide +kernel
theorem dX13_summedUp_376 : decode cX13_summedUp 376 = .ok (.iconst 1, 1) := by decide +kernel
theorem dX13_summedUp_377 : decode cX13_summedUp 377 = .ok (.isub, 1) := by decide +kernel
theorem dX13_summedUp_378 : decode cX13_summedUp 378 = .ok (.iload 8, 2) := by decide +kernel
theorem dX13_summedUp_380 : decode cX13_summedUp 380 = .ok (.aload_n 0, 1) := by decide +kernel
theorem dX13_summedUp_381 : decode cX13_summedUp 381 = .ok (.getfield 39, 3) := by decide +kernel
theorem dX13_summedUp_384 : decode cX13_summedUp 384 = .ok (.iload 6, 2) := by decide +kernel
theorem dX13_summedUp_386 : decode cX13_summedUp 386 = .ok (.iconst 1, 1) := by decide +kernel
theorem dX13_summedUp_387 : decode cX13_summedUp 387 = .ok (.isub, 1) := by decide +kernel
theorem dX13_summedUp_388 : decode cX13_summedUp 388 = .ok (.baload, 1) := by decide +kernel
theorem dX13_summedUp_389 : decode cX13_summedUp 389 = .ok (.aload_n 0, 1) := by decide +kernel
theorem dX13_summedUp_390 : decode cX13_summedUp 390 = .ok (.getfield 39, 3) := by decide +kernel
theorem dX13_summedUp_393 : decode cX13_summedUp 393 = .ok (.iload 6, 2) := by decide +kernel
theorem dX13_summedUp_395 : decode cX13_summedUp 395 = .ok (.baload, 1) := by decide +kernel
theorem dX13_summedUp_396 : decode cX13_summedUp 396 = .ok (.invokestatic 285, 3) := by decide +kernel
theorem dX13_summedUp_399 : decode cX13_summedUp 399 = .ok (.bastore, 1) := by decide +kernel
theorem dX13_summedUp_400 : decode cX13_summedUp 400 = .ok (.iinc 7 1, 3) := by decide +kernel
theorem dX13_summedUp_403 : decode cX13_summedUp 403 = .ok (.goto (-365), 3) := by decide +kernel
theorem dX13_summedUp_406 : decode cX13_summedUp 406 = .ok (.aload_n 0, 1) := by decide +kernel
theorem dX13_summedUp_407 : decode cX13_summedUp 407 = .ok (.getfield 35, 3) := by decide +kernel
theorem dX13_summedUp_410 : decode cX13_summedUp 410 = .ok (.iconst 0, 1) := by decide +kernel
theorem dX13_summedUp_411 : decode cX13_summedUp 411 = .ok (.laload, 1) := by decide +kernel
theorem dX13_summedUp_412 : decode cX13_summedUp 412 = .ok (.lreturn, 1) := by decide +kernel
theorem BX13_summedUp_0 {d bc bs : Nat} {h : aH} {n : Nat} {Q : aQ} {ar0 at8 : Nat} {x1 x2 v13 : Int} {l3 l4 l5 l6 l7 l8 l9 : Option aV} {f6 : List aV} {w11 : List Int} (b1 : -2147483648 ≤ 705 * x1 ∧ 705 * x1 < 2147483648) (b2 : -2147483648 ≤ (705 * x1) + 1 ∧ (705 * x1) + 1 < 2147483648) (b3 : -2147483648 ≤ 4 * x2 ∧ 4 * x2 < 2147483648) (b4 : -2147483648 ≤ ((705 * x1) + 1) + (4 * x2) ∧ ((705 * x1) + 1) + (4 * x2) < 2147483648) (b5 : -2147483648 ≤ (705 * x1) + 97 ∧ (705 * x1) + 97 < 2147483648) (h7 : h ar0 = cO 13 f6) (g9 : f6[2]? = some (vR (some at8))) (b10 : -2147483648 ≤ (((705 * x1) + 1) + (4 * x2)) + 1 ∧ (((705 * x1) + 1) + (4 * x2)) + 1 < 2147483648) (h12 : h at8 = cI w11) (i14 : 0 ≤ (((705 * x1) + 1) + (4 * x2)) + 1) (g15 : w11[((((705 * x1) + 1) + (4 * x2)) + 1 : Int).toNat]? = some v13) (k : Rn d bc bs mX13_summedUp 38 [some (vR (some ar0)), some (vI x1), some (vI x2), some (vI (((705 * x1) + 1) + (4 * x2))), some (vI ((705 * x1) + 97)), some (vI 0), some (vI 0), some (vI v13), l8, l9] [] h n Q) : Rn d (bc) (bs) mX13_summedUp 0 [some (vR (some ar0)), some (vI x1), some (vI x2), l3, l4, l5, l6, l7, l8, l9] [] h n Q := by
  refine Rn_sipush dX13_summedUp_0 rfl ?_
  refine Rn_iload_n dX13_summedUp_3 rfl rfl ?_
  refine Rn_imul dX13_summedUp_4 ?_
  rw [w32_id b1.1 b1.2]
  refine Rn_iconst dX13_summedUp_5 rfl ?_
  refine Rn_iadd dX13_summedUp_6 ?_
  rw [w32_id b2.1 b2.2]
  refine Rn_iconst dX13_summedUp_7 rfl ?_
  refine Rn_iload_n dX13_summedUp_8 rfl rfl ?_
  refine Rn_imul dX13_summedUp_9 ?_
  rw [w32_id b3.1 b3.2]
  refine Rn_iadd dX13_summedUp_10 ?_
  rw [w32_id b4.1 b4.2]
  refine Rn_istore_n dX13_summedUp_11 rfl (Nat.le_of_ble_eq_true rfl) rfl rfl ?_
  refine Rn_sipush dX13_summedUp_12 rfl ?_
  refine Rn_iload_n dX13_summedUp_15 rfl rfl ?_
  refine Rn_imul dX13_summedUp_16 ?_
  rw [w32_id b1.1 b1.2]
  refine Rn_bipush dX13_summedUp_17 rfl ?_
  refine Rn_iadd dX13_summedUp_19 ?_
  rw [w32_id b5.1 b5.2]
  refine Rn_istore dX13_summedUp_20 (Nat.le_of_ble_eq_true rfl) rfl rfl ?_
  refine Rn_iconst dX13_summedUp_22 rfl ?_
  refine Rn_istore dX13_summedUp_23 (Nat.le_of_ble_eq_true rfl) rfl rfl ?_
  refine Rn_iconst dX13_summedUp_25 rfl ?_
  refine Rn_istore dX13_summedUp_26 (Nat.le_of_ble_eq_true rfl) rfl rfl ?_
  refine Rn_aload_n dX13_summedUp_28 rfl rfl rfl ?_
  refine Rn_getfield (ci := 13) (k := 2) dX13_summedUp_29 rfl in_13 (Nat.le_of_ble_eq_true rfl) wd_1354 rfl h7 g9 ?_
  refine Rn_iload_n dX13_summedUp_32 rfl rfl ?_
  refine Rn_iconst dX13_summedUp_33 rfl ?_
  refine Rn_iadd dX13_summedUp_34 ?_
  rw [w32_id b10.1 b10.2]
  refine Rn_iaload dX13_summedUp_35 h12 i14 g15 ?_
  refine Rn_istore dX13_summedUp_36 (Nat.le_of_ble_eq_true rfl) rfl rfl ?_
  exact k
theorem BX13_summedUp_38 {d bc bs : Nat} {h : aH} {n : Nat} {Q : aQ} {ar0 at3 : Nat} {x1 x2 x3 x4 x5 x6 x7 v8 : Int} {l8 l9 : Option aV} {f1 : List aV} {w6 : List Int} (h2 : h ar0 = cO 13 f1) (g4 : f1[2]? = some (vR (some at3))) (b5 : -2147483648 ≤ x3 + 2 ∧ x3 + 2 < 2147483648) (h7 : h at3 = cI w6) (i9 : 0 ≤ x3 + 2) (g10 : w6[(x3 + 2 : Int).toNat]? = some v8) (kt : v8 ≤ x7 → Rn d bc bs mX13_summedUp 406 [some (vR (some ar0)), some (vI x1), some (vI x2), some (vI x3), some (vI x4), some (vI x5), some (vI x6), some (vI x7), l8, l9] [] h n Q) (kf : x7 < v8 → Rn d bc bs mX13_summedUp 51 [some (vR (some ar0)), some (vI x1), some (vI x2), some (vI x3), some (vI x4), some (vI x5), some (vI x6), some (vI x7), l8, l9] [] h n Q) : Rn d (bc) (bs) mX13_summedUp 38 [some (vR (some ar0)), some (vI x1), some (vI x2), some (vI x3), some (vI x4), some (vI x5), some (vI x6), some (vI x7), l8, l9] [] h n Q := by
  refine Rn_iload dX13_summedUp_38 rfl ?_
  refine Rn_aload_n dX13_summedUp_40 rfl rfl rfl ?_
  refine Rn_getfield (ci := 13) (k := 2) dX13_summedUp_41 rfl in_13 (Nat.le_of_ble_eq_true rfl) wd_1354 rfl h2 g4 ?_
  refine Rn_iload_n dX13_summedUp_44 rfl rfl ?_
  refine Rn_iconst dX13_summedUp_45 rfl ?_
  refine Rn_iadd dX13_summedUp_46 ?_
  rw [w32_id b5.1 b5.2]
  refine Rn_iaload dX13_summedUp_47 h7 i9 g10 ?_
  refine Rn_icmpge (tgt := 406) dX13_summedUp_48 rfl ?_ ?_
  · exact kt
  · exact kf
theorem BX13_summedUp_51 {d bc bs : Nat} {h : aH} {n : Nat} {Q : aQ} {ar0 at3 : Nat} {x1 x2 x3 x4 x5 x6 x7 v9 v13 : Int} {l8 l9 : Option aV} {f1 : List aV} {w7 : List Int} (h2 : h ar0 = cO 13 f1) (g4 : f1[2]? = some (vR (some at3))) (b5 : -2147483648 ≤ 2 * x7 ∧ 2 * x7 < 2147483648) (b6 : -2147483648 ≤ x4 + (2 * x7) ∧ x4 + (2 * x7) < 2147483648) (h8 : h at3 = cI w7) (i10 : 0 ≤ x4 + (2 * x7)) (g11 : w7[(x4 + (2 * x7) : Int).toNat]? = some v9) (b12 : -2147483648 ≤ (x4 + (2 * x7)) + 1 ∧ (x4 + (2 * x7)) + 1 < 2147483648) (i14 : 0 ≤ (x4 + (2 * x7)) + 1) (g15 : w7[((x4 + (2 * x7)) + 1 : Int).toNat]? = some v13) (kt : 1 < v9 → Rn d bc bs mX13_summedUp 119 [some (vR (some ar0)), some (vI x1), some (vI x2), some (vI x3), some (vI x4), some (vI x5), some (vI x6), some (vI x7), some (vI v9), some (vI v13)] [] h n Q) (kf : v9 ≤ 1 → Rn d bc bs mX13_summedUp 87 [some (vR (some ar0)), some (vI x1), some (vI x2), some (vI x3), some (vI x4), some (vI x5), some (vI x6), some (vI x7), some (vI v9), some (vI v13)] [] h n Q) : Rn d (bc) (bs) mX13_summedUp 51 [some (vR (some ar0)), some (vI x1), some (vI x2), some (vI x3), some (vI x4), some (vI x5), some (vI x6), some (vI x7), l8, l9] [] h n Q := by
  refine Rn_aload_n dX13_summedUp_51 rfl rfl rfl ?_
  refine Rn_getfield (ci := 13) (k := 2) dX13_summedUp_52 rfl in_13 (Nat.le_of_ble_eq_true rfl) wd_1354 rfl h2 g4 ?_
  refine Rn_iload dX13_summedUp_55 rfl ?_
  refine Rn_iconst dX13_summedUp_57 rfl ?_
  refine Rn_iload dX13_summedUp_58 rfl ?_
  refine Rn_imul dX13_summedUp_60 ?_
  rw [w32_id b5.1 b5.2]
  refine Rn_iadd dX13_summedUp_61 ?_
  rw [w32_id b6.1 b6.2]
  refine Rn_iaload dX13_summedUp_62 h8 i10 g11 ?_
  refine Rn_istore dX13_summedUp_63 (Nat.le_of_ble_eq_true rfl) rfl rfl ?_
  refine Rn_aload_n dX13_summedUp_65 rfl rfl rfl ?_
  refine Rn_getfield (ci := 13) (k := 2) dX13_summedUp_66 rfl in_13 (Nat.le_of_ble_eq_true rfl) wd_1354 rfl h2 g4 ?_
  refine Rn_iload dX13_summedUp_69 rfl ?_
  refine Rn_iconst dX13_summedUp_71 rfl ?_
  refine Rn_iload dX13_summedUp_72 rfl ?_
  refine Rn_imul dX13_summedUp_74 ?_
  rw [w32_id b5.1 b5.2]
  refine Rn_iadd dX13_summedUp_75 ?_
  rw [w32_id b6.1 b6.2]
  refine Rn_iconst dX13_summedUp_76 rfl ?_
  refine Rn_iadd dX13_summedUp_77 ?_
  rw [w32_id b12.1 b12.2]
  refine Rn_iaload dX13_summedUp_78 h8 i14 g15 ?_
  refine Rn_istore dX13_summedUp_79 (Nat.le_of_ble_eq_true rfl) rfl rfl ?_
  refine Rn_iload dX13_summedUp_81 rfl ?_
  refine Rn_iconst dX13_summedUp_83 rfl ?_
  refine Rn_icmpgt (tgt := 119) dX13_summedUp_84 rfl ?_ ?_
  · exact kt
  · exact kf
theorem BX13_summedUp_87 {d bc bs : Nat} {h : aH} {n : Nat} {Q : aQ} {ar0 : Nat} {x1 x2 x3 x4 x5 x6 x7 x8 x9 : Int} {f1 : List aV} {t3 : Option Nat} (h2 : h ar0 = cO 13 f1) (g4 : f1[21]? = some (vR t3)) (kt : x8 ≠ 0 → Rn d bc bs mX13_summedUp 104 [some (vR (some ar0)), some (vI x1), some (vI x2), some (vI x3), some (vI x4), some (vI x5), some (vI x6), some (vI x7), some (vI x8), some (vI x9)] [vI x5, vR t3] h n Q) (kf : x8 = 0 → Rn d bc bs mX13_summedUp 98 [some (vR (some ar0)), some (vI x1), some (vI x2), some (vI x3), some (vI x4), some (vI x5), some (vI x6), some (vI x7), some (vI x8), some (vI x9)] [vI x5, vR t3] h n Q) : Rn d (bc) (bs) mX13_summedUp 87 [some (vR (some ar0)), some (vI x1), some (vI x2), some (vI x3), some (vI x4), some (vI x5), some (vI x6), some (vI x7), some (vI x8), some (vI x9)] [] h n Q := by
  refine Rn_aload_n dX13_summedUp_87 rfl rfl rfl ?_
  refine Rn_getfield (ci := 13) (k := 21) dX13_summedUp_88 rfl in_13 (Nat.le_of_ble_eq_true rfl) wd_1373 rfl h2 g4 ?_
  refine Rn_iload dX13_summedUp_91 rfl ?_
  refine Rn_iload dX13_summedUp_93 rfl ?_
  refine Rn_ifne (tgt := 104) dX13_summedUp_95 rfl ?_ ?_
  · exact kt
  · exact kf
theorem BX13_summedUp_98 {d bc bs : Nat} {h : aH} {n : Nat} {Q : aQ} {r0 : Option Nat} {x1 x2 x3 x4 x5 x6 x7 x8 x9 s1 : Int} {aq0 : Nat} {w1 : List Int} (h2 : h aq0 = cJ w1) (i3 : 0 ≤ s1) (j4 : s1 < w1.length) (z5 : aq0 ≠ 0) (k : Rn d bc bs mX13_summedUp 113 [some (vR r0), some (vI x1), some (vI x2), some (vI x3), some (vI x4), some (vI x5), some (vI x6), some (vI x7), some (vI x8), some (vI x9)] [] (up h aq0 (cJ (w1.set (s1 : Int).toNat x9))) n Q) : Rn d (bc) (bs) mX13_summedUp 98 [some (vR r0), some (vI x1), some (vI x2), some (vI x3), some (vI x4), some (vI x5), some (vI x6), some (vI x7), some (vI x8), some (vI x9)] [vI s1, vR (some aq0)] h n Q := by
  refine Rn_iload dX13_summedUp_98 rfl ?_
  refine Rn_i2l dX13_summedUp_100 ?_
  refine Rn_goto (tgt := 112) dX13_summedUp_101 rfl ?_
  refine Rn_lastore dX13_summedUp_112 z5 h2 i3 j4 ?_
  exact k
theorem BX13_summedUp_104 {d bc bs : Nat} {h : aH} {n : Nat} {Q : aQ} {ar0 aq0 at3 : Nat} {x1 x2 x3 x4 x5 x6 x7 x8 x9 s1 v7 : Int} {f1 : List aV} {w5 w10 : List Int} (h2 : h ar0 = cO 13 f1) (g4 : f1[20]? = some (vR (some at3))) (h6 : h at3 = cI w5) (i8 : 0 ≤ x9) (g9 : w5[(x9 : Int).toNat]? = some v7) (h11 : h aq0 = cJ w10) (i12 : 0 ≤ s1) (j13 : s1 < w10.length) (z14 : aq0 ≠ 0) (k : Rn d bc bs mX13_summedUp 113 [some (vR (some ar0)), some (vI x1), some (vI x2), some (vI x3), some (vI x4), some (vI x5), some (vI x6), some (vI x7), some (vI x8), some (vI x9)] [] (up h aq0 (cJ (w10.set (s1 : Int).toNat v7))) n Q) : Rn d (bc) (bs) mX13_summedUp 104 [some (vR (some ar0)), some (vI x1), some (vI x2), some (vI x3), some (vI x4), some (vI x5), some (vI x6), some (vI x7), some (vI x8), some (vI x9)] [vI s1, vR (some aq0)] h n Q := by
  refine Rn_aload_n dX13_summedUp_104 rfl rfl rfl ?_
  refine Rn_getfield (ci := 13) (k := 20) dX13_summedUp_105 rfl in_13 (Nat.le_of_ble_eq_true rfl) wd_1372 rfl h2 g4 ?_
  refine Rn_iload dX13_summedUp_108 rfl ?_
  refine Rn_iaload dX13_summedUp_110 h6 i8 g9 ?_
  refine Rn_i2l dX13_summedUp_111 ?_
  refine Rn_lastore dX13_summedUp_112 z14 h11 i12 j13 ?_
  exact k
theorem BX13_summedUp_113 {d bc bs : Nat} {h : aH} {n : Nat} {Q : aQ} {r0 : Option Nat} {x1 x2 x3 x4 x5 x6 x7 x8 x9 : Int} (b1 : -2147483648 ≤ x5 + 1 ∧ x5 + 1 < 2147483648) (b2 : -2147483648 ≤ x7 + 1 ∧ x7 + 1 < 2147483648) (k : Rn d bc bs mX13_summedUp 38 [some (vR r0), some (vI x1), some (vI x2), some (vI x3), some (vI x4), some (vI (x5 + 1)), some (vI x6), some (vI (x7 + 1)), some (vI x8), some (vI x9)] [] h n Q) : Rn d (bc) (bs) mX13_summedUp 113 [some (vR r0), some (vI x1), some (vI x2), some (vI x3), some (vI x4), some (vI x5), some (vI x6), some (vI x7), some (vI x8), some (vI x9)] [] h n Q := by
  refine Rn_iinc dX13_summedUp_113 rfl (Nat.le_of_ble_eq_true rfl) rfl rfl rfl ?_
  rw [w32_id b1.1 b1.2]
  refine Rn_goto (tgt := 400) dX13_summedUp_116 rfl ?_
  refine Rn_iinc dX13_summedUp_400 rfl (Nat.le_of_ble_eq_true rfl) rfl rfl rfl ?_
  rw [w32_id b2.1 b2.2]
  refine Rn_goto (tgt := 38) dX13_summedUp_403 rfl ?_
  exact k
theorem BX13_summedUp_119 {d bc bs : Nat} {h : aH} {n : Nat} {Q : aQ} {r0 : Option Nat} {x1 x2 x3 x4 x5 x6 x7 x8 x9 : Int} (kt : x8 ≠ 3 → Rn d bc bs mX13_summedUp 160 [some (vR r0), some (vI x1), some (vI x2), some (vI x3), some (vI x4), some (vI x5), some (vI x6), some (vI x7), some (vI x8), some (vI x9)] [] h n Q) (kf : x8 = 3 → Rn d bc bs mX13_summedUp 125 [some (vR r0), some (vI x1), some (vI x2), some (vI x3), some (vI x4), some (vI x5), some (vI x6), some (vI x7), some (vI x8), some (vI x9)] [] h n Q) : Rn d (bc) (bs) mX13_summedUp 119 [some (vR r0), some (vI x1), some (vI x2), some (vI x3), some (vI x4), some (vI x5), some (vI x6), some (vI x7), some (vI x8), some (vI x9)] [] h n Q := by
  refine Rn_iload dX13_summedUp_119 rfl ?_
  refine Rn_iconst dX13_summedUp_121 rfl ?_
  refine Rn_icmpne (tgt := 160) dX13_summedUp_122 rfl ?_ ?_
  · exact kt
  · exact kf
theorem BX13_summedUp_125 {d bc bs : Nat} {h : aH} {n : Nat} {Q : aQ} {ar0 at5 : Nat} {x1 x2 x3 x4 x5 x6 x7 x8 x9 v9 : Int} {f3 : List aV} {w7 : List Int} (b1 : -2147483648 ≤ x5 + (-1) ∧ x5 + (-1) < 2147483648) (b2 : -2147483648 ≤ x6 + (-1) ∧ x6 + (-1) < 2147483648) (h4 : h ar0 = cO 13 f3) (g6 : f3[22]? = some (vR (some at5))) (h8 : h at5 = cZ w7) (i10 : 0 ≤ x6 + (-1)) (g11 : w7[(x6 + (-1) : Int).toNat]? = some v9) (z12 : at5 ≠ 0) (kt : v9 ≠ 0 → Rn d bc bs mX13_summedUp 400 [some (vR (some ar0)), some (vI x1), some (vI x2), some (vI x3), some (vI x4), some (vI (x5 + (-1))), some (vI (x6 + (-1))), some (vI x7), some (vI x8), some (vI x9)] [] h n Q) (kf : v9 = 0 → Rn d bc bs mX13_summedUp 141 [some (vR (some ar0)), some (vI x1), some (vI x2), some (vI x3), some (vI x4), some (vI (x5 + (-1))), some (vI (x6 + (-1))), some (vI x7), some (vI x8), some (vI x9)] [] h n Q) : Rn d (bc) (bs) mX13_summedUp 125 [some (vR (some ar0)), some (vI x1), some (vI x2), some (vI x3), some (vI x4), some (vI x5), some (vI x6), some (vI x7), some (vI x8), some (vI x9)] [] h n Q := by
  refine Rn_iinc dX13_summedUp_125 rfl (Nat.le_of_ble_eq_true rfl) rfl rfl rfl ?_
  rw [w32_id b1.1 b1.2]
  refine Rn_iinc dX13_summedUp_128 rfl (Nat.le_of_ble_eq_true rfl) rfl rfl rfl ?_
  rw [w32_id b2.1 b2.2]
  refine Rn_aload_n dX13_summedUp_131 rfl rfl rfl ?_
  refine Rn_getfield (ci := 13) (k := 22) dX13_summedUp_132 rfl in_13 (Nat.le_of_ble_eq_true rfl) wd_1374 rfl h4 g6 ?_
  refine Rn_iload dX13_summedUp_135 rfl ?_
  refine Rn_baload dX13_summedUp_137 z12 h8 i10 g11 ?_
  refine Rn_ifne (tgt := 400) dX13_summedUp_138 rfl ?_ ?_
  · exact kt
  · exact kf
theorem BX13_summedUp_141 {d bc bs : Nat} {h : aH} {n : Nat} {Q : aQ} {ar0 at3 : Nat} {x1 x2 x3 x4 x5 x6 x7 x8 x9 v8 : Int} {f1 : List aV} {w6 : List Int} (h2 : h ar0 = cO 13 f1) (g4 : f1[21]? = some (vR (some at3))) (b5 : -2147483648 ≤ x5 - 1 ∧ x5 - 1 < 2147483648) (h7 : h at3 = cJ w6) (i9 : 0 ≤ x5) (g10 : w6[(x5 : Int).toNat]? = some v8) (z11 : at3 ≠ 0) (i12 : 0 ≤ x5 - 1) (j13 : x5 - 1 < w6.length) (k : Rn d bc bs mX13_summedUp 157 [some (vR (some ar0)), some (vI x1), some (vI x2), some (vI x3), some (vI x4), some (vI x5), some (vI x6), some (vI x7), some (vI x8), some (vI x9)] [] (up h at3 (cJ (w6.set (x5 - 1 : Int).toNat v8))) n Q) : Rn d (bc) (bs) mX13_summedUp 141 [some (vR (some ar0)), some (vI x1), some (vI x2), some (vI x3), some (vI x4), some (vI x5), some (vI x6), some (vI x7), some (vI x8), some (vI x9)] [] h n Q := by
  refine Rn_aload_n dX13_summedUp_141 rfl rfl rfl ?_
  refine Rn_getfield (ci := 13) (k := 21) dX13_summedUp_142 rfl in_13 (Nat.le_of_ble_eq_true rfl) wd_1373 rfl h2 g4 ?_
  refine Rn_iload dX13_summedUp_145 rfl ?_
  refine Rn_iconst dX13_summedUp_147 rfl ?_
  refine Rn_isub dX13_summedUp_148 ?_
  rw [w32_id b5.1 b5.2]
  refine Rn_aload_n dX13_summedUp_149 rfl rfl rfl ?_
  refine Rn_getfield (ci := 13) (k := 21) dX13_summedUp_150 rfl in_13 (Nat.le_of_ble_eq_true rfl) wd_1373 rfl h2 g4 ?_
  refine Rn_iload dX13_summedUp_153 rfl ?_
  refine Rn_laload dX13_summedUp_155 z11 h7 i9 g10 ?_
  refine Rn_lastore dX13_summedUp_156 z11 h7 i12 j13 ?_
  exact k
theorem BX13_summedUp_157 {d bc bs : Nat} {h : aH} {n : Nat} {Q : aQ} {r0 : Option Nat} {x1 x2 x3 x4 x5 x6 x7 x8 x9 : Int} (b1 : -2147483648 ≤ x7 + 1 ∧ x7 + 1 < 2147483648) (k : Rn d bc bs mX13_summedUp 38 [some (vR r0), some (vI x1), some (vI x2), some (vI x3), some (vI x4), some (vI x5), some (vI x6), some (vI (x7 + 1)), some (vI x8), some (vI x9)] [] h n Q) : Rn d (bc) (bs) mX13_summedUp 157 [some (vR r0), some (vI x1), some (vI x2), some (vI x3), some (vI x4), some (vI x5), some (vI x6), some (vI x7), some (vI x8), some (vI x9)] [] h n Q := by
  refine Rn_goto (tgt := 400) dX13_summedUp_157 rfl ?_
  refine Rn_iinc dX13_summedUp_400 rfl (Nat.le_of_ble_eq_true rfl) rfl rfl rfl ?_
  rw [w32_id b1.1 b1.2]
  refine Rn_goto (tgt := 38) dX13_summedUp_403 rfl ?_
  exact k
theorem BX13_summedUp_160 {d bc bs : Nat} {h : aH} {n : Nat} {Q : aQ} {r0 : Option Nat} {x1 x2 x3 x4 x5 x6 x7 x8 x9 : Int} (kt : x8 = 5 → Rn d bc bs mX13_summedUp 172 [some (vR r0), some (vI x1), some (vI x2), some (vI x3), some (vI x4), some (vI x5), some (vI x6), some (vI x7), some (vI x8), some (vI x9)] [] h n Q) (kf : x8 ≠ 5 → Rn d bc bs mX13_summedUp 166 [some (vR r0), some (vI x1), some (vI x2), some (vI x3), some (vI x4), some (vI x5), some (vI x6), some (vI x7), some (vI x8), some (vI x9)] [] h n Q) : Rn d (bc) (bs) mX13_summedUp 160 [some (vR r0), some (vI x1), some (vI x2), some (vI x3), some (vI x4), some (vI x5), some (vI x6), some (vI x7), some (vI x8), some (vI x9)] [] h n Q := by
  refine Rn_iload dX13_summedUp_160 rfl ?_
  refine Rn_iconst dX13_summedUp_162 rfl ?_
  refine Rn_icmpeq (tgt := 172) dX13_summedUp_163 rfl ?_ ?_
  · exact kt
  · exact kf
theorem BX13_summedUp_166 {d bc bs : Nat} {h : aH} {n : Nat} {Q : aQ} {r0 : Option Nat} {x1 x2 x3 x4 x5 x6 x7 x8 x9 : Int} (kt : x8 ≠ 2 → Rn d bc bs mX13_summedUp 216 [some (vR r0), some (vI x1), some (vI x2), some (vI x3), some (vI x4), some (vI x5), some (vI x6), some (vI x7), some (vI x8), some (vI x9)] [] h n Q) (kf : x8 = 2 → Rn d bc bs mX13_summedUp 172 [some (vR r0), some (vI x1), some (vI x2), some (vI x3), some (vI x4), some (vI x5), some (vI x6), some (vI x7), some (vI x8), some (vI x9)] [] h n Q) : Rn d (bc) (bs) mX13_summedUp 166 [some (vR r0), some (vI x1), some (vI x2), some (vI x3), some (vI x4), some (vI x5), some (vI x6), some (vI x7), some (vI x8), some (vI x9)] [] h n Q := by
  refine Rn_iload dX13_summedUp_166 rfl ?_
  refine Rn_iconst dX13_summedUp_168 rfl ?_
  refine Rn_icmpne (tgt := 216) dX13_summedUp_169 rfl ?_ ?_
  · exact kt
  · exact kf
theorem BX13_summedUp_172 {d bc bs : Nat} {h : aH} {n : Nat} {Q : aQ} {ar0 : Nat} {x1 x2 x3 x4 x5 x6 x7 x8 x9 : Int} {f1 : List aV} {t3 : Option Nat} (h2 : h ar0 = cO 13 f1) (g4 : f1[21]? = some (vR t3)) (b5 : -2147483648 ≤ x5 - 1 ∧ x5 - 1 < 2147483648) (kt : x8 ≠ 5 → Rn d bc bs mX13_summedUp 199 [some (vR (some ar0)), some (vI x1), some (vI x2), some (vI x3), some (vI x4), some (vI x5), some (vI x6), some (vI x7), some (vI x8), some (vI x9)] [vI (x5 - 1), vR t3] h n Q) (kf : x8 = 5 → Rn d bc bs mX13_summedUp 186 [some (vR (some ar0)), some (vI x1), some (vI x2), some (vI x3), some (vI x4), some (vI x5), some (vI x6), some (vI x7), some (vI x8), some (vI x9)] [vI (x5 - 1), vR t3] h n Q) : Rn d (bc) (bs) mX13_summedUp 172 [some (vR (some ar0)), some (vI x1), some (vI x2), some (vI x3), some (vI x4), some (vI x5), some (vI x6), some (vI x7), some (vI x8), some (vI x9)] [] h n Q := by
  refine Rn_aload_n dX13_summedUp_172 rfl rfl rfl ?_
  refine Rn_getfield (ci := 13) (k := 21) dX13_summedUp_173 rfl in_13 (Nat.le_of_ble_eq_true rfl) wd_1373 rfl h2 g4 ?_
  refine Rn_iload dX13_summedUp_176 rfl ?_
  refine Rn_iconst dX13_summedUp_178 rfl ?_
  refine Rn_isub dX13_summedUp_179 ?_
  rw [w32_id b5.1 b5.2]
  refine Rn_iload dX13_summedUp_180 rfl ?_
  refine Rn_iconst dX13_summedUp_182 rfl ?_
  refine Rn_icmpne (tgt := 199) dX13_summedUp_183 rfl ?_ ?_
  · exact kt
  · exact kf
theorem BX13_summedUp_186 {d bc bs : Nat} {h : aH} {n : Nat} {Q : aQ} {ar0 aq0 at3 : Nat} {x1 x2 x3 x4 x5 x6 x7 x8 x9 s1 v8 : Int} {f1 : List aV} {w6 w13 : List Int} (h2 : h ar0 = cO 13 f1) (g4 : f1[21]? = some (vR (some at3))) (b5 : -2147483648 ≤ x5 - 1 ∧ x5 - 1 < 2147483648) (h7 : h at3 = cJ w6) (i9 : 0 ≤ x5 - 1) (g10 : w6[(x5 - 1 : Int).toNat]? = some v8) (z11 : at3 ≠ 0) (b12 : -9223372036854775808 ≤ -v8 ∧ -v8 < 9223372036854775808) (h14 : h aq0 = cJ w13) (i15 : 0 ≤ s1) (j16 : s1 < w13.length) (z17 : aq0 ≠ 0) (k : Rn d bc bs mX13_summedUp 213 [some (vR (some ar0)), some (vI x1), some (vI x2), some (vI x3), some (vI x4), some (vI x5), some (vI x6), some (vI x7), some (vI x8), some (vI x9)] [] (up h aq0 (cJ (w13.set (s1 : Int).toNat (-v8)))) n Q) : Rn d (bc) (bs) mX13_summedUp 186 [some (vR (some ar0)), some (vI x1), some (vI x2), some (vI x3), some (vI x4), some (vI x5), some (vI x6), some (vI x7), some (vI x8), some (vI x9)] [vI s1, vR (some aq0)] h n Q := by
  refine Rn_aload_n dX13_summedUp_186 rfl rfl rfl ?_
  refine Rn_getfield (ci := 13) (k := 21) dX13_summedUp_187 rfl in_13 (Nat.le_of_ble_eq_true rfl) wd_1373 rfl h2 g4 ?_
  refine Rn_iload dX13_summedUp_190 rfl ?_
  refine Rn_iconst dX13_summedUp_192 rfl ?_
  refine Rn_isub dX13_summedUp_193 ?_
  rw [w32_id b5.1 b5.2]
  refine Rn_laload dX13_summedUp_194 z11 h7 i9 g10 ?_
  refine Rn_lneg dX13_summedUp_195 ?_
  rw [w64_id b12.1 b12.2]
  refine Rn_goto (tgt := 212) dX13_summedUp_196 rfl ?_
  refine Rn_lastore dX13_summedUp_212 z17 h14 i15 j16 ?_
  exact k
theorem BX13_summedUp_199 {d bc bs : Nat} {h : aH} {n : Nat} {Q : aQ} {ar0 at3 : Nat} {x1 x2 x3 x4 x5 x6 x7 x8 x9 s1 v8 : Int} {q0 : Option Nat} {f1 : List aV} {w6 : List Int} (h2 : h ar0 = cO 13 f1) (g4 : f1[21]? = some (vR (some at3))) (b5 : -2147483648 ≤ x5 - 1 ∧ x5 - 1 < 2147483648) (h7 : h at3 = cJ w6) (i9 : 0 ≤ x5 - 1) (g10 : w6[(x5 - 1 : Int).toNat]? = some v8) (z11 : at3 ≠ 0) (k : Rn d 0 0 mX13_placesOf 0 [some (vR (some ar0)), some (vL v8), none] [] h n (fun v h1 n1 => Rn (d + 1) bc bs mX13_summedUp 212 [some (vR (some ar0)), some (vI x1), some (vI x2), some (vI x3), some (vI x4), some (vI x5), some (vI x6), some (vI x7), some (vI x8), some (vI x9)] (v.toList ++ [vI s1, vR q0]) h1 n1 Q)) : Rn (d + 1) (bc) (bs) mX13_summedUp 199 [some (vR (some ar0)), some (vI x1), some (vI x2), some (vI x3), some (vI x4), some (vI x5), some (vI x6), some (vI x7), some (vI x8), some (vI x9)] [vI s1, vR q0] h n Q := by
  refine Rn_aload_n dX13_summedUp_199 rfl rfl rfl ?_
  refine Rn_aload_n dX13_summedUp_200 rfl rfl rfl ?_
  refine Rn_getfield (ci := 13) (k := 21) dX13_summedUp_201 rfl in_13 (Nat.le_of_ble_eq_true rfl) wd_1373 rfl h2 g4 ?_
  refine Rn_iload dX13_summedUp_204 rfl ?_
  refine Rn_iconst dX13_summedUp_206 rfl ?_
  refine Rn_isub dX13_summedUp_207 ?_
  rw [w32_id b5.1 b5.2]
  refine Rn_laload dX13_summedUp_208 z11 h7 i9 g10 ?_
  exact Rn_callV (ci := 13) (avs := [vL v8]) (st := [vI s1, vR q0]) (bc1 := 0) (bs1 := 0) (bc2 := bc) (bs2 := bs) fx_X13_placesOf dX13_summedUp_209 wd_1746 wd_1748 wd_96 rfl h2 rfl (Nat.le_of_ble_eq_true rfl) (Nat.le_of_ble_eq_true rfl) (by omega) (by omega) (ls1 := [some (vR (some ar0)), some (vL v8), none]) rfl k
theorem BX13_summedUp_212 {d bc bs : Nat} {h : aH} {n : Nat} {Q : aQ} {r0 : Option Nat} {x1 x2 x3 x4 x5 x6 x7 x8 x9 s1 s2 : Int} {aq0 : Nat} {w1 : List Int} (h2 : h aq0 = cJ w1) (i3 : 0 ≤ s1) (j4 : s1 < w1.length) (z5 : aq0 ≠ 0) (k : Rn d bc bs mX13_summedUp 213 [some (vR r0), some (vI x1), some (vI x2), some (vI x3), some (vI x4), some (vI x5), some (vI x6), some (vI x7), some (vI x8), some (vI x9)] [] (up h aq0 (cJ (w1.set (s1 : Int).toNat s2))) n Q) : Rn d (bc) (bs) mX13_summedUp 212 [some (vR r0), some (vI x1), some (vI x2), some (vI x3), some (vI x4), some (vI x5), some (vI x6), some (vI x7), some (vI x8), some (vI x9)] [vL s2, vI s1, vR (some aq0)] h n Q := by
  refine Rn_lastore dX13_summedUp_212 z5 h2 i3 j4 ?_
  exact k
theorem BX13_summedUp_213 {d bc bs : Nat} {h : aH} {n : Nat} {Q : aQ} {r0 : Option Nat} {x1 x2 x3 x4 x5 x6 x7 x8 x9 : Int} (b1 : -2147483648 ≤ x7 + 1 ∧ x7 + 1 < 2147483648) (k : Rn d bc bs mX13_summedUp 38 [some (vR r0), some (vI x1), some (vI x2), some (vI x3), some (vI x4), some (vI x5), some (vI x6), some (vI (x7 + 1)), some (vI x8), some (vI x9)] [] h n Q) : Rn d (bc) (bs) mX13_summedUp 213 [some (vR r0), some (vI x1), some (vI x2), some (vI x3), some (vI x4), some (vI x5), some (vI x6), some (vI x7), some (vI x8), some (vI x9)] [] h n Q := by
  refine Rn_goto (tgt := 400) dX13_summedUp_213 rfl ?_
  refine Rn_iinc dX13_summedUp_400 rfl (Nat.le_of_ble_eq_true rfl) rfl rfl rfl ?_
  rw [w32_id b1.1 b1.2]
  refine Rn_goto (tgt := 38) dX13_summedUp_403 rfl ?_
  exact k
theorem BX13_summedUp_216 {d bc bs : Nat} {h : aH} {n : Nat} {Q : aQ} {r0 : Option Nat} {x1 x2 x3 x4 x5 x6 x7 x8 x9 : Int} (kt : 10 ≤ x8 → Rn d bc bs mX13_summedUp 287 [some (vR r0), some (vI x1), some (vI x2), some (vI x3), some (vI x4), some (vI x5), some (vI x6), some (vI x7), some (vI x8), some (vI x9)] [] h n Q) (kf : x8 < 10 → Rn d bc bs mX13_summedUp 223 [some (vR r0), some (vI x1), some (vI x2), some (vI x3), some (vI x4), some (vI x5), some (vI x6), some (vI x7), some (vI x8), some (vI x9)] [] h n Q) : Rn d (bc) (bs) mX13_summedUp 216 [some (vR r0), some (vI x1), some (vI x2), some (vI x3), some (vI x4), some (vI x5), some (vI x6), some (vI x7), some (vI x8), some (vI x9)] [] h n Q := by
  refine Rn_iload dX13_summedUp_216 rfl ?_
  refine Rn_bipush dX13_summedUp_218 rfl ?_
  refine Rn_icmpge (tgt := 287) dX13_summedUp_220 rfl ?_ ?_
  · exact kt
  · exact kf
theorem BX13_summedUp_223 {d bc bs : Nat} {h : aH} {n : Nat} {Q : aQ} {ar0 : Nat} {x1 x2 x3 x4 x5 x6 x7 x8 x9 : Int} {f2 : List aV} {t4 : Option Nat} (b1 : -2147483648 ≤ x5 + (-1) ∧ x5 + (-1) < 2147483648) (h3 : h ar0 = cO 13 f2) (g5 : f2[21]? = some (vR t4)) (b6 : -2147483648 ≤ (x5 + (-1)) - 1 ∧ (x5 + (-1)) - 1 < 2147483648) (kt : x8 ≠ 4 → Rn d bc bs mX13_summedUp 262 [some (vR (some ar0)), some (vI x1), some (vI x2), some (vI x3), some (vI x4), some (vI (x5 + (-1))), some (vI x6), some (vI x7), some (vI x8), some (vI x9)] [vI ((x5 + (-1)) - 1), vR t4] h n Q) (kf : x8 = 4 → Rn d bc bs mX13_summedUp 240 [some (vR (some ar0)), some (vI x1), some (vI x2), some (vI x3), some (vI x4), some (vI (x5 + (-1))), some (vI x6), some (vI x7), some (vI x8), some (vI x9)] [vI ((x5 + (-1)) - 1), vR t4] h n Q) : Rn d (bc) (bs) mX13_summedUp 223 [some (vR (some ar0)), some (vI x1), some (vI x2), some (vI x3), some (vI x4), some (vI x5), some (vI x6), some (vI x7), some (vI x8), some (vI x9)] [] h n Q := by
  refine Rn_iinc dX13_summedUp_223 rfl (Nat.le_of_ble_eq_true rfl) rfl rfl rfl ?_
  rw [w32_id b1.1 b1.2]
  refine Rn_aload_n dX13_summedUp_226 rfl rfl rfl ?_
  refine Rn_getfield (ci := 13) (k := 21) dX13_summedUp_227 rfl in_13 (Nat.le_of_ble_eq_true rfl) wd_1373 rfl h3 g5 ?_
  refine Rn_iload dX13_summedUp_230 rfl ?_
  refine Rn_iconst dX13_summedUp_232 rfl ?_
  refine Rn_isub dX13_summedUp_233 ?_
  rw [w32_id b6.1 b6.2]
  refine Rn_iload dX13_summedUp_234 rfl ?_
  refine Rn_iconst dX13_summedUp_236 rfl ?_
  refine Rn_icmpne (tgt := 262) dX13_summedUp_237 rfl ?_ ?_
  · exact kt
  · exact kf
theorem BX13_summedUp_240 {d bc bs : Nat} {h : aH} {n : Nat} {Q : aQ} {ar0 at3 : Nat} {x1 x2 x3 x4 x5 x6 x7 x8 x9 s1 v8 v12 : Int} {q0 : Option Nat} {f1 : List aV} {w6 : List Int} (h2 : h ar0 = cO 13 f1) (g4 : f1[21]? = some (vR (some at3))) (b5 : -2147483648 ≤ x5 - 1 ∧ x5 - 1 < 2147483648) (h7 : h at3 = cJ w6) (i9 : 0 ≤ x5 - 1) (g10 : w6[(x5 - 1 : Int).toNat]? = some v8) (z11 : at3 ≠ 0) (i13 : 0 ≤ x5) (g14 : w6[(x5 : Int).toNat]? = some v12) (k : Rn d 0 0 mX13_laterBy 0 [some (vL v8), none, some (vL v12), none, none, none] [] h n (fun v h1 n1 => Rn (d + 1) bc bs mX13_summedUp 259 [some (vR (some ar0)), some (vI x1), some (vI x2), some (vI x3), some (vI x4), some (vI x5), some (vI x6), some (vI x7), some (vI x8), some (vI x9)] (v.toList ++ [vI s1, vR q0]) h1 n1 Q)) : Rn (d + 1) (bc) (bs) mX13_summedUp 240 [some (vR (some ar0)), some (vI x1), some (vI x2), some (vI x3), some (vI x4), some (vI x5), some (vI x6), some (vI x7), some (vI x8), some (vI x9)] [vI s1, vR q0] h n Q := by
  refine Rn_aload_n dX13_summedUp_240 rfl rfl rfl ?_
  refine Rn_getfield (ci := 13) (k := 21) dX13_summedUp_241 rfl in_13 (Nat.le_of_ble_eq_true rfl) wd_1373 rfl h2 g4 ?_
  refine Rn_iload dX13_summedUp_244 rfl ?_
  refine Rn_iconst dX13_summedUp_246 rfl ?_
  refine Rn_isub dX13_summedUp_247 ?_
  rw [w32_id b5.1 b5.2]
  refine Rn_laload dX13_summedUp_248 z11 h7 i9 g10 ?_
  refine Rn_aload_n dX13_summedUp_249 rfl rfl rfl ?_
  refine Rn_getfield (ci := 13) (k := 21) dX13_summedUp_250 rfl in_13 (Nat.le_of_ble_eq_true rfl) wd_1373 rfl h2 g4 ?_
  refine Rn_iload dX13_summedUp_253 rfl ?_
  refine Rn_laload dX13_summedUp_255 z11 h7 i13 g14 ?_
  exact Rn_callS (avs := [vL v8, vL v12]) (st := [vI s1, vR q0]) (bc1 := 0) (bs1 := 0) (bc2 := bc) (bs2 := bs) fx_X13_laterBy dX13_summedUp_256 (Or.inl wd_1750) wd_1751 rfl (Nat.le_of_ble_eq_true rfl) (Nat.le_of_ble_eq_true rfl) (by omega) (by omega) (ls1 := [some (vL v8), none, some (vL v12), none, none, none]) rfl k
theorem BX13_summedUp_259 {d bc bs : Nat} {h : aH} {n : Nat} {Q : aQ} {r0 : Option Nat} {x1 x2 x3 x4 x5 x6 x7 x8 x9 s1 s2 : Int} {aq0 : Nat} {w1 : List Int} (h2 : h aq0 = cJ w1) (i3 : 0 ≤ s1) (j4 : s1 < w1.length) (z5 : aq0 ≠ 0) (k : Rn d bc bs mX13_summedUp 284 [some (vR r0), some (vI x1), some (vI x2), some (vI x3), some (vI x4), some (vI x5), some (vI x6), some (vI x7), some (vI x8), some (vI x9)] [] (up h aq0 (cJ (w1.set (s1 : Int).toNat s2))) n Q) : Rn d (bc) (bs) mX13_summedUp 259 [some (vR r0), some (vI x1), some (vI x2), some (vI x3), some (vI x4), some (vI x5), some (vI x6), some (vI x7), some (vI x8), some (vI x9)] [vL s2, vI s1, vR (some aq0)] h n Q := by
  refine Rn_goto (tgt := 283) dX13_summedUp_259 rfl ?_
  refine Rn_lastore dX13_summedUp_283 z5 h2 i3 j4 ?_
  exact k
theorem BX13_summedUp_262 {d bc bs : Nat} {h : aH} {n : Nat} {Q : aQ} {ar0 at3 : Nat} {x1 x2 x3 x4 x5 x6 x7 x8 x9 s1 v8 v12 : Int} {q0 : Option Nat} {f1 : List aV} {w6 : List Int} (h2 : h ar0 = cO 13 f1) (g4 : f1[21]? = some (vR (some at3))) (b5 : -2147483648 ≤ x5 - 1 ∧ x5 - 1 < 2147483648) (h7 : h at3 = cJ w6) (i9 : 0 ≤ x5 - 1) (g10 : w6[(x5 - 1 : Int).toNat]? = some v8) (z11 : at3 ≠ 0) (i13 : 0 ≤ x5) (g14 : w6[(x5 : Int).toNat]? = some v12) (k : Rn d 0 0 mX13_two 0 [some (vI x8), some (vL v8), none, some (vL v12), none] [] h n (fun v h1 n1 => Rn (d + 1) bc bs mX13_summedUp 283 [some (vR (some ar0)), some (vI x1), some (vI x2), some (vI x3), some (vI x4), some (vI x5), some (vI x6), some (vI x7), some (vI x8), some (vI x9)] (v.toList ++ [vI s1, vR q0]) h1 n1 Q)) : Rn (d + 1) (bc) (bs) mX13_summedUp 262 [some (vR (some ar0)), some (vI x1), some (vI x2), some (vI x3), some (vI x4), some (vI x5), some (vI x6), some (vI x7), some (vI x8), some (vI x9)] [vI s1, vR q0] h n Q := by
  refine Rn_iload dX13_summedUp_262 rfl ?_
  refine Rn_aload_n dX13_summedUp_264 rfl rfl rfl ?_
  refine Rn_getfield (ci := 13) (k := 21) dX13_summedUp_265 rfl in_13 (Nat.le_of_ble_eq_true rfl) wd_1373 rfl h2 g4 ?_
  refine Rn_iload dX13_summedUp_268 rfl ?_
  refine Rn_iconst dX13_summedUp_270 rfl ?_
  refine Rn_isub dX13_summedUp_271 ?_
  rw [w32_id b5.1 b5.2]
  refine Rn_laload dX13_summedUp_272 z11 h7 i9 g10 ?_
  refine Rn_aload_n dX13_summedUp_273 rfl rfl rfl ?_
  refine Rn_getfield (ci := 13) (k := 21) dX13_summedUp_274 rfl in_13 (Nat.le_of_ble_eq_true rfl) wd_1373 rfl h2 g4 ?_
  refine Rn_iload dX13_summedUp_277 rfl ?_
  refine Rn_laload dX13_summedUp_279 z11 h7 i13 g14 ?_
  exact Rn_callS (avs := [vI x8, vL v8, vL v12]) (st := [vI s1, vR q0]) (bc1 := 0) (bs1 := 0) (bc2 := bc) (bs2 := bs) fx_X13_two dX13_summedUp_280 (Or.inl wd_1754) wd_1755 rfl (Nat.le_of_ble_eq_true rfl) (Nat.le_of_ble_eq_true rfl) (by omega) (by omega) (ls1 := [some (vI x8), some (vL v8), none, some (vL v12), none]) rfl k
theorem BX13_summedUp_283 {d bc bs : Nat} {h : aH} {n : Nat} {Q : aQ} {r0 : Option Nat} {x1 x2 x3 x4 x5 x6 x7 x8 x9 s1 s2 : Int} {aq0 : Nat} {w1 : List Int} (h2 : h aq0 = cJ w1) (i3 : 0 ≤ s1) (j4 : s1 < w1.length) (z5 : aq0 ≠ 0) (k : Rn d bc bs mX13_summedUp 284 [some (vR r0), some (vI x1), some (vI x2), some (vI x3), some (vI x4), some (vI x5), some (vI x6), some (vI x7), some (vI x8), some (vI x9)] [] (up h aq0 (cJ (w1.set (s1 : Int).toNat s2))) n Q) : Rn d (bc) (bs) mX13_summedUp 283 [some (vR r0), some (vI x1), some (vI x2), some (vI x3), some (vI x4), some (vI x5), some (vI x6), some (vI x7), some (vI x8), some (vI x9)] [vL s2, vI s1, vR (some aq0)] h n Q := by
  refine Rn_lastore dX13_summedUp_283 z5 h2 i3 j4 ?_
  exact k
theorem BX13_summedUp_284 {d bc bs : Nat} {h : aH} {n : Nat} {Q : aQ} {r0 : Option Nat} {x1 x2 x3 x4 x5 x6 x7 x8 x9 : Int} (b1 : -2147483648 ≤ x7 + 1 ∧ x7 + 1 < 2147483648) (k : Rn d bc bs mX13_summedUp 38 [some (vR r0), some (vI x1), some (vI x2), some (vI x3), some (vI x4), some (vI x5), some (vI x6), some (vI (x7 + 1)), some (vI x8), some (vI x9)] [] h n Q) : Rn d (bc) (bs) mX13_summedUp 284 [some (vR r0), some (vI x1), some (vI x2), some (vI x3), some (vI x4), some (vI x5), some (vI x6), some (vI x7), some (vI x8), some (vI x9)] [] h n Q := by
  refine Rn_goto (tgt := 400) dX13_summedUp_284 rfl ?_
  refine Rn_iinc dX13_summedUp_400 rfl (Nat.le_of_ble_eq_true rfl) rfl rfl rfl ?_
  rw [w32_id b1.1 b1.2]
  refine Rn_goto (tgt := 38) dX13_summedUp_403 rfl ?_
  exact k
theorem BX13_summedUp_287 {d bc bs : Nat} {h : aH} {n : Nat} {Q : aQ} {r0 : Option Nat} {x1 x2 x3 x4 x5 x6 x7 x8 x9 : Int} (kt : 20 ≤ x8 → Rn d bc bs mX13_summedUp 331 [some (vR r0), some (vI x1), some (vI x2), some (vI x3), some (vI x4), some (vI x5), some (vI x6), some (vI x7), some (vI x8), some (vI x9)] [] h n Q) (kf : x8 < 20 → Rn d bc bs mX13_summedUp 294 [some (vR r0), some (vI x1), some (vI x2), some (vI x3), some (vI x4), some (vI x5), some (vI x6), some (vI x7), some (vI x8), some (vI x9)] [] h n Q) : Rn d (bc) (bs) mX13_summedUp 287 [some (vR r0), some (vI x1), some (vI x2), some (vI x3), some (vI x4), some (vI x5), some (vI x6), some (vI x7), some (vI x8), some (vI x9)] [] h n Q := by
  refine Rn_iload dX13_summedUp_287 rfl ?_
  refine Rn_bipush dX13_summedUp_289 rfl ?_
  refine Rn_icmpge (tgt := 331) dX13_summedUp_291 rfl ?_ ?_
  · exact kt
  · exact kf
theorem BX13_summedUp_294 {d bc bs : Nat} {h : aH} {n : Nat} {Q : aQ} {ar0 at6 : Nat} {x1 x2 x3 x4 x5 x6 x7 x8 x9 v10 v15 : Int} {f2 : List aV} {t4 : Option Nat} {w8 : List Int} (b1 : -2147483648 ≤ x5 + (-2) ∧ x5 + (-2) < 2147483648) (h3 : h ar0 = cO 13 f2) (g5 : f2[22]? = some (vR t4)) (g7 : f2[21]? = some (vR (some at6))) (h9 : h at6 = cJ w8) (i11 : 0 ≤ x5 + (-2)) (g12 : w8[(x5 + (-2) : Int).toNat]? = some v10) (z13 : at6 ≠ 0) (b14 : -2147483648 ≤ (x5 + (-2)) + 1 ∧ (x5 + (-2)) + 1 < 2147483648) (i16 : 0 ≤ (x5 + (-2)) + 1) (g17 : w8[((x5 + (-2)) + 1 : Int).toNat]? = some v15) (k : Rn d 0 0 mX13_isAsked 0 [some (vI x8), some (vL v10), none, some (vL v15), none] [] h n (fun v h1 n1 => Rn (d + 1) bc bs mX13_summedUp 324 [some (vR (some ar0)), some (vI x1), some (vI x2), some (vI x3), some (vI x4), some (vI (x5 + (-2))), some (vI x6), some (vI x7), some (vI x8), some (vI x9)] (v.toList ++ [vI x6, vR t4]) h1 n1 Q)) : Rn (d + 1) (bc) (bs) mX13_summedUp 294 [some (vR (some ar0)), some (vI x1), some (vI x2), some (vI x3), some (vI x4), some (vI x5), some (vI x6), some (vI x7), some (vI x8), some (vI x9)] [] h n Q := by
  refine Rn_iinc dX13_summedUp_294 rfl (Nat.le_of_ble_eq_true rfl) rfl rfl rfl ?_
  rw [w32_id b1.1 b1.2]
  refine Rn_aload_n dX13_summedUp_297 rfl rfl rfl ?_
  refine Rn_getfield (ci := 13) (k := 22) dX13_summedUp_298 rfl in_13 (Nat.le_of_ble_eq_true rfl) wd_1374 rfl h3 g5 ?_
  refine Rn_iload dX13_summedUp_301 rfl ?_
  refine Rn_iload dX13_summedUp_303 rfl ?_
  refine Rn_aload_n dX13_summedUp_305 rfl rfl rfl ?_
  refine Rn_getfield (ci := 13) (k := 21) dX13_summedUp_306 rfl in_13 (Nat.le_of_ble_eq_true rfl) wd_1373 rfl h3 g7 ?_
  refine Rn_iload dX13_summedUp_309 rfl ?_
  refine Rn_laload dX13_summedUp_311 z13 h9 i11 g12 ?_
  refine Rn_aload_n dX13_summedUp_312 rfl rfl rfl ?_
  refine Rn_getfield (ci := 13) (k := 21) dX13_summedUp_313 rfl in_13 (Nat.le_of_ble_eq_true rfl) wd_1373 rfl h3 g7 ?_
  refine Rn_iload dX13_summedUp_316 rfl ?_
  refine Rn_iconst dX13_summedUp_318 rfl ?_
  refine Rn_iadd dX13_summedUp_319 ?_
  rw [w32_id b14.1 b14.2]
  refine Rn_laload dX13_summedUp_320 z13 h9 i16 g17 ?_
  exact Rn_callS (avs := [vI x8, vL v10, vL v15]) (st := [vI x6, vR t4]) (bc1 := 0) (bs1 := 0) (bc2 := bc) (bs2 := bs) fx_X13_isAsked dX13_summedUp_321 (Or.inl wd_1761) wd_1762 rfl (Nat.le_of_ble_eq_true rfl) (Nat.le_of_ble_eq_true rfl) (by omega) (by omega) (ls1 := [some (vI x8), some (vL v10), none, some (vL v15), none]) rfl k
theorem BX13_summedUp_324 {d bc bs : Nat} {h : aH} {n : Nat} {Q : aQ} {r0 : Option Nat} {x1 x2 x3 x4 x5 x6 x7 x8 x9 s1 s2 : Int} {aq0 : Nat} {w1 : List Int} (h2 : h aq0 = cZ w1) (i3 : 0 ≤ s1) (j4 : s1 < w1.length) (b5 : s2 = 0 ∨ s2 = 1) (z6 : aq0 ≠ 0) (k : Rn d bc bs mX13_summedUp 325 [some (vR r0), some (vI x1), some (vI x2), some (vI x3), some (vI x4), some (vI x5), some (vI x6), some (vI x7), some (vI x8), some (vI x9)] [] (up h aq0 (cZ (w1.set (s1 : Int).toNat s2))) n Q) : Rn d (bc) (bs) mX13_summedUp 324 [some (vR r0), some (vI x1), some (vI x2), some (vI x3), some (vI x4), some (vI x5), some (vI x6), some (vI x7), some (vI x8), some (vI x9)] [vI s2, vI s1, vR (some aq0)] h n Q := by
  refine Rn_bastore dX13_summedUp_324 z6 h2 i3 j4 b5 ?_
  exact k
theorem BX13_summedUp_325 {d bc bs : Nat} {h : aH} {n : Nat} {Q : aQ} {r0 : Option Nat} {x1 x2 x3 x4 x5 x6 x7 x8 x9 : Int} (b1 : -2147483648 ≤ x6 + 1 ∧ x6 + 1 < 2147483648) (b2 : -2147483648 ≤ x7 + 1 ∧ x7 + 1 < 2147483648) (k : Rn d bc bs mX13_summedUp 38 [some (vR r0), some (vI x1), some (vI x2), some (vI x3), some (vI x4), some (vI x5), some (vI (x6 + 1)), some (vI (x7 + 1)), some (vI x8), some (vI x9)] [] h n Q) : Rn d (bc) (bs) mX13_summedUp 325 [some (vR r0), some (vI x1), some (vI x2), some (vI x3), some (vI x4), some (vI x5), some (vI x6), some (vI x7), some (vI x8), some (vI x9)] [] h n Q := by
  refine Rn_iinc dX13_summedUp_325 rfl (Nat.le_of_ble_eq_true rfl) rfl rfl rfl ?_
  rw [w32_id b1.1 b1.2]
  refine Rn_goto (tgt := 400) dX13_summedUp_328 rfl ?_
  refine Rn_iinc dX13_summedUp_400 rfl (Nat.le_of_ble_eq_true rfl) rfl rfl rfl ?_
  rw [w32_id b2.1 b2.2]
  refine Rn_goto (tgt := 38) dX13_summedUp_403 rfl ?_
  exact k
theorem BX13_summedUp_331 {d bc bs : Nat} {h : aH} {n : Nat} {Q : aQ} {r0 : Option Nat} {x1 x2 x3 x4 x5 x6 x7 x8 x9 : Int} (kt : x8 ≠ 20 → Rn d bc bs mX13_summedUp 367 [some (vR r0), some (vI x1), some (vI x2), some (vI x3), some (vI x4), some (vI x5), some (vI x6), some (vI x7), some (vI x8), some (vI x9)] [] h n Q) (kf : x8 = 20 → Rn d bc bs mX13_summedUp 338 [some (vR r0), some (vI x1), some (vI x2), some (vI x3), some (vI x4), some (vI x5), some (vI x6), some (vI x7), some (vI x8), some (vI x9)] [] h n Q) : Rn d (bc) (bs) mX13_summedUp 331 [some (vR r0), some (vI x1), some (vI x2), some (vI x3), some (vI x4), some (vI x5), some (vI x6), some (vI x7), some (vI x8), some (vI x9)] [] h n Q := by
  refine Rn_iload dX13_summedUp_331 rfl ?_
  refine Rn_bipush dX13_summedUp_333 rfl ?_
  refine Rn_icmpne (tgt := 367) dX13_summedUp_335 rfl ?_ ?_
  · exact kt
  · exact kf
theorem BX13_summedUp_338 {d bc bs : Nat} {h : aH} {n : Nat} {Q : aQ} {ar0 at3 : Nat} {x1 x2 x3 x4 x5 x6 x7 x8 x9 v8 : Int} {f1 : List aV} {w6 : List Int} (h2 : h ar0 = cO 13 f1) (g4 : f1[22]? = some (vR (some at3))) (b5 : -2147483648 ≤ x6 - 1 ∧ x6 - 1 < 2147483648) (h7 : h at3 = cZ w6) (i9 : 0 ≤ x6 - 1) (g10 : w6[(x6 - 1 : Int).toNat]? = some v8) (z11 : at3 ≠ 0) (kt : v8 ≠ 0 → Rn d bc bs mX13_summedUp 362 [some (vR (some ar0)), some (vI x1), some (vI x2), some (vI x3), some (vI x4), some (vI x5), some (vI x6), some (vI x7), some (vI x8), some (vI x9)] [vI (x6 - 1), vR (some at3)] h n Q) (kf : v8 = 0 → Rn d bc bs mX13_summedUp 358 [some (vR (some ar0)), some (vI x1), some (vI x2), some (vI x3), some (vI x4), some (vI x5), some (vI x6), some (vI x7), some (vI x8), some (vI x9)] [vI (x6 - 1), vR (some at3)] h n Q) : Rn d (bc) (bs) mX13_summedUp 338 [some (vR (some ar0)), some (vI x1), some (vI x2), some (vI x3), some (vI x4), some (vI x5), some (vI x6), some (vI x7), some (vI x8), some (vI x9)] [] h n Q := by
  refine Rn_aload_n dX13_summedUp_338 rfl rfl rfl ?_
  refine Rn_getfield (ci := 13) (k := 22) dX13_summedUp_339 rfl in_13 (Nat.le_of_ble_eq_true rfl) wd_1374 rfl h2 g4 ?_
  refine Rn_iload dX13_summedUp_342 rfl ?_
  refine Rn_iconst dX13_summedUp_344 rfl ?_
  refine Rn_isub dX13_summedUp_345 ?_
  rw [w32_id b5.1 b5.2]
  refine Rn_aload_n dX13_summedUp_346 rfl rfl rfl ?_
  refine Rn_getfield (ci := 13) (k := 22) dX13_summedUp_347 rfl in_13 (Nat.le_of_ble_eq_true rfl) wd_1374 rfl h2 g4 ?_
  refine Rn_iload dX13_summedUp_350 rfl ?_
  refine Rn_iconst dX13_summedUp_352 rfl ?_
  refine Rn_isub dX13_summedUp_353 ?_
  rw [w32_id b5.1 b5.2]
  refine Rn_baload dX13_summedUp_354 z11 h7 i9 g10 ?_
  refine Rn_ifne (tgt := 362) dX13_summedUp_355 rfl ?_ ?_
  · exact kt
  · exact kf
theorem BX13_summedUp_358 {d bc bs : Nat} {h : aH} {n : Nat} {Q : aQ} {r0 : Option Nat} {x1 x2 x3 x4 x5 x6 x7 x8 x9 s1 : Int} {aq0 : Nat} {w1 : List Int} (h2 : h aq0 = cZ w1) (i3 : 0 ≤ s1) (j4 : s1 < w1.length) (z5 : aq0 ≠ 0) (k : Rn d bc bs mX13_summedUp 364 [some (vR r0), some (vI x1), some (vI x2), some (vI x3), some (vI x4), some (vI x5), some (vI x6), some (vI x7), some (vI x8), some (vI x9)] [] (up h aq0 (cZ (w1.set (s1 : Int).toNat 1))) n Q) : Rn d (bc) (bs) mX13_summedUp 358 [some (vR r0), some (vI x1), some (vI x2), some (vI x3), some (vI x4), some (vI x5), some (vI x6), some (vI x7), some (vI x8), some (vI x9)] [vI s1, vR (some aq0)] h n Q := by
  refine Rn_iconst dX13_summedUp_358 rfl ?_
  refine Rn_goto (tgt := 363) dX13_summedUp_359 rfl ?_
  refine Rn_bastore dX13_summedUp_363 z5 h2 i3 j4 (by decide) ?_
  exact k
theorem BX13_summedUp_362 {d bc bs : Nat} {h : aH} {n : Nat} {Q : aQ} {r0 : Option Nat} {x1 x2 x3 x4 x5 x6 x7 x8 x9 s1 : Int} {aq0 : Nat} {w1 : List Int} (h2 : h aq0 = cZ w1) (i3 : 0 ≤ s1) (j4 : s1 < w1.length) (z5 : aq0 ≠ 0) (k : Rn d bc bs mX13_summedUp 364 [some (vR r0), some (vI x1), some (vI x2), some (vI x3), some (vI x4), some (vI x5), some (vI x6), some (vI x7), some (vI x8), some (vI x9)] [] (up h aq0 (cZ (w1.set (s1 : Int).toNat 0))) n Q) : Rn d (bc) (bs) mX13_summedUp 362 [some (vR r0), some (vI x1), some (vI x2), some (vI x3), some (vI x4), some (vI x5), some (vI x6), some (vI x7), some (vI x8), some (vI x9)] [vI s1, vR (some aq0)] h n Q := by
  refine Rn_iconst dX13_summedUp_362 rfl ?_
  refine Rn_bastore dX13_summedUp_363 z5 h2 i3 j4 (by decide) ?_
  exact k
theorem BX13_summedUp_364 {d bc bs : Nat} {h : aH} {n : Nat} {Q : aQ} {r0 : Option Nat} {x1 x2 x3 x4 x5 x6 x7 x8 x9 : Int} (b1 : -2147483648 ≤ x7 + 1 ∧ x7 + 1 < 2147483648) (k : Rn d bc bs mX13_summedUp 38 [some (vR r0), some (vI x1), some (vI x2), some (vI x3), some (vI x4), some (vI x5), some (vI x6), some (vI (x7 + 1)), some (vI x8), some (vI x9)] [] h n Q) : Rn d (bc) (bs) mX13_summedUp 364 [some (vR r0), some (vI x1), some (vI x2), some (vI x3), some (vI x4), some (vI x5), some (vI x6), some (vI x7), some (vI x8), some (vI x9)] [] h n Q := by
  refine Rn_goto (tgt := 400) dX13_summedUp_364 rfl ?_
  refine Rn_iinc dX13_summedUp_400 rfl (Nat.le_of_ble_eq_true rfl) rfl rfl rfl ?_
  rw [w32_id b1.1 b1.2]
  refine Rn_goto (tgt := 38) dX13_summedUp_403 rfl ?_
  exact k
theorem BX13_summedUp_367 {d bc bs : Nat} {h : aH} {n : Nat} {Q : aQ} {ar0 at4 : Nat} {x1 x2 x3 x4 x5 x6 x7 x8 x9 v9 v13 : Int} {f2 : List aV} {w7 : List Int} (b1 : -2147483648 ≤ x6 + (-1) ∧ x6 + (-1) < 2147483648) (h3 : h ar0 = cO 13 f2) (g5 : f2[22]? = some (vR (some at4))) (b6 : -2147483648 ≤ (x6 + (-1)) - 1 ∧ (x6 + (-1)) - 1 < 2147483648) (h8 : h at4 = cZ w7) (i10 : 0 ≤ (x6 + (-1)) - 1) (g11 : w7[((x6 + (-1)) - 1 : Int).toNat]? = some v9) (z12 : at4 ≠ 0) (i14 : 0 ≤ x6 + (-1)) (g15 : w7[(x6 + (-1) : Int).toNat]? = some v13) (k : Rn d 0 0 mX13_joined 0 [some (vI x8), some (vI v9), some (vI v13)] [] h n (fun v h1 n1 => Rn (d + 1) bc bs mX13_summedUp 399 [some (vR (some ar0)), some (vI x1), some (vI x2), some (vI x3), some (vI x4), some (vI x5), some (vI (x6 + (-1))), some (vI x7), some (vI x8), some (vI x9)] (v.toList ++ [vI ((x6 + (-1)) - 1), vR (some at4)]) h1 n1 Q)) : Rn (d + 1) (bc) (bs) mX13_summedUp 367 [some (vR (some ar0)), some (vI x1), some (vI x2), some (vI x3), some (vI x4), some (vI x5), some (vI x6), some (vI x7), some (vI x8), some (vI x9)] [] h n Q := by
  refine Rn_iinc dX13_summedUp_367 rfl (Nat.le_of_ble_eq_true rfl) rfl rfl rfl ?_
  rw [w32_id b1.1 b1.2]
  refine Rn_aload_n dX13_summedUp_370 rfl rfl rfl ?_
  refine Rn_getfield (ci := 13) (k := 22) dX13_summedUp_371 rfl in_13 (Nat.le_of_ble_eq_true rfl) wd_1374 rfl h3 g5 ?_
  refine Rn_iload dX13_summedUp_374 rfl ?_
  refine Rn_iconst dX13_summedUp_376 rfl ?_
  refine Rn_isub dX13_summedUp_377 ?_
  rw [w32_id b6.1 b6.2]
  refine Rn_iload dX13_summedUp_378 rfl ?_
  refine Rn_aload_n dX13_summedUp_380 rfl rfl rfl ?_
  refine Rn_getfield (ci := 13) (k := 22) dX13_summedUp_381 rfl in_13 (Nat.le_of_ble_eq_true rfl) wd_1374 rfl h3 g5 ?_
  refine Rn_iload dX13_summedUp_384 rfl ?_
  refine Rn_iconst dX13_summedUp_386 rfl ?_
  refine Rn_isub dX13_summedUp_387 ?_
  rw [w32_id b6.1 b6.2]
  refine Rn_baload dX13_summedUp_388 z12 h8 i10 g11 ?_
  refine Rn_aload_n dX13_summedUp_389 rfl rfl rfl ?_
  refine Rn_getfield (ci := 13) (k := 22) dX13_summedUp_390 rfl in_13 (Nat.le_of_ble_eq_true rfl) wd_1374 rfl h3 g5 ?_
  refine Rn_iload dX13_summedUp_393 rfl ?_
  refine Rn_baload dX13_summedUp_395 z12 h8 i14 g15 ?_
  exact Rn_callS (avs := [vI x8, vI v9, vI v13]) (st := [vI ((x6 + (-1)) - 1), vR (some at4)]) (bc1 := 0) (bs1 := 0) (bc2 := bc) (bs2 := bs) fx_X13_joined dX13_summedUp_396 (Or.inl wd_1764) wd_1765 rfl (Nat.le_of_ble_eq_true rfl) (Nat.le_of_ble_eq_true rfl) (by omega) (by omega) (ls1 := [some (vI x8), some (vI v9), some (vI v13)]) rfl k
theorem BX13_summedUp_399 {d bc bs : Nat} {h : aH} {n : Nat} {Q : aQ} {r0 : Option Nat} {x1 x2 x3 x4 x5 x6 x7 x8 x9 s1 s2 : Int} {aq0 : Nat} {w1 : List Int} (h2 : h aq0 = cZ w1) (i3 : 0 ≤ s1) (j4 : s1 < w1.length) (b5 : s2 = 0 ∨ s2 = 1) (z6 : aq0 ≠ 0) (k : Rn d bc bs mX13_summedUp 400 [some (vR r0), some (vI x1), some (vI x2), some (vI x3), some (vI x4), some (vI x5), some (vI x6), some (vI x7), some (vI x8), some (vI x9)] [] (up h aq0 (cZ (w1.set (s1 : Int).toNat s2))) n Q) : Rn d (bc) (bs) mX13_summedUp 399 [some (vR r0), some (vI x1), some (vI x2), some (vI x3), some (vI x4), some (vI x5), some (vI x6), some (vI x7), some (vI x8), some (vI x9)] [vI s2, vI s1, vR (some aq0)] h n Q := by
  refine Rn_bastore dX13_summedUp_399 z6 h2 i3 j4 b5 ?_
  exact k
theorem BX13_summedUp_400 {d bc bs : Nat} {h : aH} {n : Nat} {Q : aQ} {r0 : Option Nat} {x1 x2 x3 x4 x5 x6 x7 x8 x9 : Int} (b1 : -2147483648 ≤ x7 + 1 ∧ x7 + 1 < 2147483648) (k : Rn d bc bs mX13_summedUp 38 [some (vR r0), some (vI x1), some (vI x2), some (vI x3), some (vI x4), some (vI x5), some (vI x6), some (vI (x7 + 1)), some (vI x8), some (vI x9)] [] h n Q) : Rn d (bc) (bs) mX13_summedUp 400 [some (vR r0), some (vI x1), some (vI x2), some (vI x3), some (vI x4), some (vI x5), some (vI x6), some (vI x7), some (vI x8), some (vI x9)] [] h n Q := by
  refine Rn_iinc dX13_summedUp_400 rfl (Nat.le_of_ble_eq_true rfl) rfl rfl rfl ?_
  rw [w32_id b1.1 b1.2]
  refine Rn_goto (tgt := 38) dX13_summedUp_403 rfl ?_
  exact k
theorem BX13_summedUp_406 {d bc bs : Nat} {h : aH} {n : Nat} {Q : aQ} {ar0 at3 : Nat} {x1 x2 x3 x4 x5 x6 x7 v7 : Int} {l8 l9 : Option aV} {f1 : List aV} {w5 : List Int} (h2 : h ar0 = cO 13 f1) (g4 : f1[21]? = some (vR (some at3))) (h6 : h at3 = cJ w5) (g8 : w5[(0 : Int).toNat]? = some v7) (z9 : at3 ≠ 0) (k : Q (some (vL v7)) h n) : Rn d (bc) (bs) mX13_summedUp 406 [some (vR (some ar0)), some (vI x1), some (vI x2), some (vI x3), some (vI x4), some (vI x5), some (vI x6), some (vI x7), l8, l9] [] h n Q := by
  refine Rn_aload_n dX13_summedUp_406 rfl rfl rfl ?_
  refine Rn_getfield (ci := 13) (k := 21) dX13_summedUp_407 rfl in_13 (Nat.le_of_ble_eq_true rfl) wd_1373 rfl h2 g4 ?_
  refine Rn_iconst dX13_summedUp_410 rfl ?_
  refine Rn_laload dX13_summedUp_411 z9 h6 (by decide) g8 ?_
  exact Rn_lreturn rfl dX13_summedUp_412 k
theorem dX13_says_0 : decode cX13_says 0 = .ok (.iconst 0, 1) := by decide +kernel
theorem dX13_says_1 : decode cX13_says 1 = .ok (.istore 5, 2) := by decide +kernel
theorem dX13_says_3 : decode cX13_says 3 = .ok (.iload_n 1, 1) := by decide +kernel
theorem dX13_says_4 : decode cX13_says 4 = .ok (.ifCond .lt 59, 3) := by decide +kernel
theorem dX13_says_7 : decode cX13_says 7 = .ok (.iload 5, 2) := by decide +kernel
theorem dX13_says_9 : decode cX13_says 9 = .ok (.aload_n 0, 1) := by decide +kernel
theorem dX13_says_10 : decode cX13_says 10 = .ok (.getfield 16, 3) := by decide +kernel
theorem dX13_says_13 : decode cX13_says 13 = .ok (.sipush 705, 3) := by decide +kernel
theorem dX13_says_16 : decode cX13_says 16 = .ok (.iload_n 1, 1) := by decide +kernel
theorem dX13_says_17 : decode cX13_says 17 = .ok (.imul, 1) := by decide +kernel
theorem dX13_says_18 : decode cX13_says 18 = .ok (.iaload, 1) := by decide +kernel
theorem dX13_says_19 : decode cX13_says 19 = .ok (.if_icmp .ge 44, 3) := by decide +kernel
theorem dX13_says_22 : decode cX13_says 22 = .ok (.aload_n 0, 1) := by decide +kernel
theorem dX13_says_23 : decode cX13_says 23 = .ok (.getfield 16, 3) := by decide +kernel
theorem dX13_says_26 : decode cX13_says 26 = .ok (.sipush 705, 3) := by decide +kernel
theorem dX13_says_29 : decode cX13_says 29 = .ok (.iload_n 1, 1) := by decide +kernel
theorem dX13_says_30 : decode cX13_says 30 = .ok (.imul, 1) := by decide +kernel
theorem dX13_says_31 : decode cX13_says 31 = .ok (.iconst 1, 1) := by decide +kernel
theorem dX13_says_32 : decode cX13_says 32 = .ok (.iadd, 1) := by decide +kernel
theorem dX13_says_33 : decode cX13_says 33 = .ok (.iconst 4, 1) := by decide +kernel
theorem dX13_says_34 : decode cX13_says 34 = .ok (.iload 5, 2) := by decide +kernel
theorem dX13_says_36 : decode cX13_says 36 = .ok (.imul, 1) := by decide +kernel
theorem dX13_says_37 : decode cX13_says 37 = .ok (.iadd, 1) := by decide +kernel
theorem dX13_says_38 : decode cX13_says 38 = .ok (.iaload, 1) := by decide +kernel
theorem dX13_says_39 : decode cX13_says 39 = .ok (.iload_n 2, 1) := by decide +kernel
theorem dX13_says_40 : decode cX13_says 40 = .ok (.if_icmp .ne 17, 3) := by decide +kernel
theorem dX13_says_43 : decode cX13_says 43 = .ok (.aload_n 0, 1) := by decide +kernel
theorem dX13_says_44 : decode cX13_says 44 = .ok (.iload_n 1, 1) := by decide +kernel
theorem dX13_says_45 : decode cX13_says 45 = .ok (.iload 5, 2) := by decide +kernel
theorem dX13_says_47 : decode cX13_says 47 = .ok (.invokevirtual 289, 3) := by decide +kernel
theorem dX13_says_50 : decode cX13_says 50 = .ok (.iconst 0, 1) := by decide +kernel
theorem dX13_says_51 : decode cX13_says 51 = .ok (.iload 4, 2) := by decide +kernel
theorem dX13_says_53 : decode cX13_says 53 = .ok (.invokestatic 292, 3) := by decide +kernel
theorem dX13_says_56 : decode cX13_says 56 = .ok (.ireturn, 1) := by decide +kernel
theorem dX13_says_57 : decode cX13_says 57 = .ok (.iinc 5 1, 3) := by decide +kernel
theorem dX13_says_60 : decode cX13_says 60 = .ok (.goto (-57), 3) := by decide +kernel
theorem dX13_says_63 : decode cX13_says 63 = .ok (.iload_n 3, 1) := by decide +kernel
theorem dX13_says_64 : decode cX13_says 64 = .ok (.i2l, 1) := by decide +kernel
theorem dX13_says_65 : decode cX13_says 65 = .ok (.iconst 0, 1) := by decide +kernel
theorem dX13_says_66 : decode cX13_says 66 = .ok (.iload 4, 2) := by decide +kernel
theorem dX13_says_68 : decode cX13_says 68 = .ok (.invokestatic 292, 3) := by decide +kernel
theorem dX13_says_71 : decode cX13_says 71 = .ok (.ireturn, 1) := by decide +kernel
theorem BX13_says_0 {d bc bs : Nat} {h : aH} {n : Nat} {Q : aQ} {r0 : Option Nat} {x1 x2 x3 x4 : Int} {l5 : Option aV} (k : Rn d bc bs mX13_says 3 [some (vR r0), some (vI x1), some (vI x2), some (vI x3), some (vI x4), some (vI 0)] [] h n Q) : Rn d (bc) (bs) mX13_says 0 [some (vR r0), some (vI x1), some (vI x2), some (vI x3), some (vI x4), l5] [] h n Q := by
  refine Rn_iconst dX13_says_0 rfl ?_
  refine Rn_istore dX13_says_1 (Nat.le_of_ble_eq_true rfl) rfl rfl ?_
  exact k
theorem BX13_says_3 {d bc bs : Nat} {h : aH} {n : Nat} {Q : aQ} {r0 : Option Nat} {x1 x2 x3 x4 x5 : Int} (kt : x1 < 0 → Rn d bc bs mX13_says 63 [some (vR r0), some (vI x1), some (vI x2), some (vI x3), some (vI x4), some (vI x5)] [] h n Q) (kf : 0 ≤ x1 → Rn d bc bs mX13_says 7 [some (vR r0), some (vI x1), some (vI x2), some (vI x3), some (vI x4), some (vI x5)] [] h n Q) : Rn d (bc) (bs) mX13_says 3 [some (vR r0), some (vI x1), some (vI x2), some (vI x3), some (vI x4), some (vI x5)] [] h n Q := by
  refine Rn_iload_n dX13_says_3 rfl rfl ?_
  refine Rn_iflt (tgt := 63) dX13_says_4 rfl ?_ ?_
  · exact kt
  · exact kf
theorem BX13_says_7 {d bc bs : Nat} {h : aH} {n : Nat} {Q : aQ} {ar0 at3 : Nat} {x1 x2 x3 x4 x5 v8 : Int} {f1 : List aV} {w6 : List Int} (h2 : h ar0 = cO 13 f1) (g4 : f1[2]? = some (vR (some at3))) (b5 : -2147483648 ≤ 705 * x1 ∧ 705 * x1 < 2147483648) (h7 : h at3 = cI w6) (i9 : 0 ≤ 705 * x1) (g10 : w6[(705 * x1 : Int).toNat]? = some v8) (kt : v8 ≤ x5 → Rn d bc bs mX13_says 63 [some (vR (some ar0)), some (vI x1), some (vI x2), some (vI x3), some (vI x4), some (vI x5)] [] h n Q) (kf : x5 < v8 → Rn d bc bs mX13_says 22 [some (vR (some ar0)), some (vI x1), some (vI x2), some (vI x3), some (vI x4), some (vI x5)] [] h n Q) : Rn d (bc) (bs) mX13_says 7 [some (vR (some ar0)), some (vI x1), some (vI x2), some (vI x3), some (vI x4), some (vI x5)] [] h n Q := by
  refine Rn_iload dX13_says_7 rfl ?_
  refine Rn_aload_n dX13_says_9 rfl rfl rfl ?_
  refine Rn_getfield (ci := 13) (k := 2) dX13_says_10 rfl in_13 (Nat.le_of_ble_eq_true rfl) wd_1354 rfl h2 g4 ?_
  refine Rn_sipush dX13_says_13 rfl ?_
  refine Rn_iload_n dX13_says_16 rfl rfl ?_
  refine Rn_imul dX13_says_17 ?_
  rw [w32_id b5.1 b5.2]
  refine Rn_iaload dX13_says_18 h7 i9 g10 ?_
  refine Rn_icmpge (tgt := 63) dX13_says_19 rfl ?_ ?_
  · exact kt
  · exact kf
theorem BX13_says_22 {d bc bs : Nat} {h : aH} {n : Nat} {Q : aQ} {ar0 at3 : Nat} {x1 x2 x3 x4 x5 v11 : Int} {f1 : List aV} {w9 : List Int} (h2 : h ar0 = cO 13 f1) (g4 : f1[2]? = some (vR (some at3))) (b5 : -2147483648 ≤ 705 * x1 ∧ 705 * x1 < 2147483648) (b6 : -2147483648 ≤ (705 * x1) + 1 ∧ (705 * x1) + 1 < 2147483648) (b7 : -2147483648 ≤ 4 * x5 ∧ 4 * x5 < 2147483648) (b8 : -2147483648 ≤ ((705 * x1) + 1) + (4 * x5) ∧ ((705 * x1) + 1) + (4 * x5) < 2147483648) (h10 : h at3 = cI w9) (i12 : 0 ≤ ((705 * x1) + 1) + (4 * x5)) (g13 : w9[(((705 * x1) + 1) + (4 * x5) : Int).toNat]? = some v11) (kt : v11 ≠ x2 → Rn d bc bs mX13_says 57 [some (vR (some ar0)), some (vI x1), some (vI x2), some (vI x3), some (vI x4), some (vI x5)] [] h n Q) (kf : v11 = x2 → Rn d bc bs mX13_says 43 [some (vR (some ar0)), some (vI x1), some (vI x2), some (vI x3), some (vI x4), some (vI x5)] [] h n Q) : Rn d (bc) (bs) mX13_says 22 [some (vR (some ar0)), some (vI x1), some (vI x2), some (vI x3), some (vI x4), some (vI x5)] [] h n Q := by
  refine Rn_aload_n dX13_says_22 rfl rfl rfl ?_
  refine Rn_getfield (ci := 13) (k := 2) dX13_says_23 rfl in_13 (Nat.le_of_ble_eq_true rfl) wd_1354 rfl h2 g4 ?_
  refine Rn_sipush dX13_says_26 rfl ?_
  refine Rn_iload_n dX13_says_29 rfl rfl ?_
  refine Rn_imul dX13_says_30 ?_
  rw [w32_id b5.1 b5.2]
  refine Rn_iconst dX13_says_31 rfl ?_
  refine Rn_iadd dX13_says_32 ?_
  rw [w32_id b6.1 b6.2]
  refine Rn_iconst dX13_says_33 rfl ?_
  refine Rn_iload dX13_says_34 rfl ?_
  refine Rn_imul dX13_says_36 ?_
  rw [w32_id b7.1 b7.2]
  refine Rn_iadd dX13_says_37 ?_
  rw [w32_id b8.1 b8.2]
  refine Rn_iaload dX13_says_38 h10 i12 g13 ?_
  refine Rn_iload_n dX13_says_39 rfl rfl ?_
  refine Rn_icmpne (tgt := 57) dX13_says_40 rfl ?_ ?_
  · exact kt
  · exact kf
theorem BX13_says_43 {d bc bs : Nat} {h : aH} {n : Nat} {Q : aQ} {ar0 : Nat} {x1 x2 x3 x4 x5 : Int} {f1 : List aV} (h2 : h ar0 = cO 13 f1) (k : Rn d 0 0 mX13_summedUp 0 [some (vR (some ar0)), some (vI x1), some (vI x5), none, none, none, none, none, none, none] [] h n (fun v h1 n1 => Rn (d + 1) bc bs mX13_says 50 [some (vR (some ar0)), some (vI x1), some (vI x2), some (vI x3), some (vI x4), some (vI x5)] (v.toList ++ []) h1 n1 Q)) : Rn (d + 1) (bc) (bs) mX13_says 43 [some (vR (some ar0)), some (vI x1), some (vI x2), some (vI x3), some (vI x4), some (vI x5)] [] h n Q := by
  refine Rn_aload_n dX13_says_43 rfl rfl rfl ?_
  refine Rn_iload_n dX13_says_44 rfl rfl ?_
  refine Rn_iload dX13_says_45 rfl ?_
  exact Rn_callV (ci := 13) (avs := [vI x1, vI x5]) (st := []) (bc1 := 0) (bs1 := 0) (bc2 := bc) (bs2 := bs) fx_X13_summedUp dX13_says_47 wd_1742 wd_1744 wd_95 rfl h2 rfl (Nat.le_of_ble_eq_true rfl) (Nat.le_of_ble_eq_true rfl) (by omega) (by omega) (ls1 := [some (vR (some ar0)), some (vI x1), some (vI x5), none, none, none, none, none, none, none]) rfl k
theorem BX13_says_50 {d bc bs : Nat} {h : aH} {n : Nat} {Q : aQ} {r0 : Option Nat} {x1 x2 x3 x4 x5 s0 : Int} (k : Rn d 0 0 mX13_cut 0 [some (vL s0), none, some (vI 0), some (vI x4)] [] h n (fun v h1 n1 => Rn (d + 1) bc bs mX13_says 56 [some (vR r0), some (vI x1), some (vI x2), some (vI x3), some (vI x4), some (vI x5)] (v.toList ++ []) h1 n1 Q)) : Rn (d + 1) (bc) (bs) mX13_says 50 [some (vR r0), some (vI x1), some (vI x2), some (vI x3), some (vI x4), some (vI x5)] [vL s0] h n Q := by
  refine Rn_iconst dX13_says_50 rfl ?_
  refine Rn_iload dX13_says_51 rfl ?_
  exact Rn_callS (avs := [vL s0, vI 0, vI x4]) (st := []) (bc1 := 0) (bs1 := 0) (bc2 := bc) (bs2 := bs) fx_X13_cut dX13_says_53 (Or.inl wd_1767) wd_1768 rfl (Nat.le_of_ble_eq_true rfl) (Nat.le_of_ble_eq_true rfl) (by omega) (by omega) (ls1 := [some (vL s0), none, some (vI 0), some (vI x4)]) rfl k
theorem BX13_says_56 {d bc bs : Nat} {h : aH} {n : Nat} {Q : aQ} {r0 : Option Nat} {x1 x2 x3 x4 x5 s0 : Int} (k : Q (some (vI s0)) h n) : Rn d (bc) (bs) mX13_says 56 [some (vR r0), some (vI x1), some (vI x2), some (vI x3), some (vI x4), some (vI x5)] [vI s0] h n Q := by
  exact Rn_ireturn rfl dX13_says_56 k
theorem BX13_says_57 {d bc bs : Nat} {h : aH} {n : Nat} {Q : aQ} {r0 : Option Nat} {x1 x2 x3 x4 x5 : Int} (b1 : -2147483648 ≤ x5 + 1 ∧ x5 + 1 < 2147483648) (k : Rn d bc bs mX13_says 3 [some (vR r0), some (vI x1), some (vI x2), some (vI x3), some (vI x4), some (vI (x5 + 1))] [] h n Q) : Rn d (bc) (bs) mX13_says 57 [some (vR r0), some (vI x1), some (vI x2), some (vI x3), some (vI x4), some (vI x5)] [] h n Q := by
  refine Rn_iinc dX13_says_57 rfl (Nat.le_of_ble_eq_true rfl) rfl rfl rfl ?_
  rw [w32_id b1.1 b1.2]
  refine Rn_goto (tgt := 3) dX13_says_60 rfl ?_
  exact k
theorem BX13_says_63 {d bc bs : Nat} {h : aH} {n : Nat} {Q : aQ} {r0 : Option Nat} {x1 x2 x3 x4 x5 : Int} (k : Rn d 0 0 mX13_cut 0 [some (vL x3), none, some (vI 0), some (vI x4)] [] h n (fun v h1 n1 => Rn (d + 1) bc bs mX13_says 71 [some (vR r0), some (vI x1), some (vI x2), some (vI x3), some (vI x4), some (vI x5)] (v.toList ++ []) h1 n1 Q)) : Rn (d + 1) (bc) (bs) mX13_says 63 [some (vR r0), some (vI x1), some (vI x2), some (vI x3), some (vI x4), some (vI x5)] [] h n Q := by
  refine Rn_iload_n dX13_says_63 rfl rfl ?_
  refine Rn_i2l dX13_says_64 ?_
  refine Rn_iconst dX13_says_65 rfl ?_
  refine Rn_iload dX13_says_66 rfl ?_
  exact Rn_callS (avs := [vL x3, vI 0, vI x4]) (st := []) (bc1 := 0) (bs1 := 0) (bc2 := bc) (bs2 := bs) fx_X13_cut dX13_says_68 (Or.inl wd_1767) wd_1768 rfl (Nat.le_of_ble_eq_true rfl) (Nat.le_of_ble_eq_true rfl) (by omega) (by omega) (ls1 := [some (vL x3), none, some (vI 0), some (vI x4)]) rfl k
theorem BX13_says_71 {d bc bs : Nat} {h : aH} {n : Nat} {Q : aQ} {r0 : Option Nat} {x1 x2 x3 x4 x5 s0 : Int} (k : Q (some (vI s0)) h n) : Rn d (bc) (bs) mX13_says 71 [some (vR r0), some (vI x1), some (vI x2), some (vI x3), some (vI x4), some (vI x5)] [vI s0] h n Q := by
  exact Rn_ireturn rfl dX13_says_71 k
theorem dX13_afloatAt_0 : decode cX13_afloatAt 0 = .ok (.iconst 0, 1) := by decide +kernel
theorem dX13_afloatAt_1 : decode cX13_afloatAt 1 = .ok (.istore_n 2, 1) := by decide +kernel
theorem dX13_afloatAt_2 : decode cX13_afloatAt 2 = .ok (.iconst 0, 1) := by decide +kernel
theorem dX13_afloatAt_3 : decode cX13_afloatAt 3 = .ok (.istore_n 3, 1) := by decide +kernel
theorem dX13_afloatAt_4 : decode cX13_afloatAt 4 = .ok (.iload_n 3, 1) := by decide +kernel
theorem dX13_afloatAt_5 : decode cX13_afloatAt 5 = .ok (.aload_n 0, 1) := by decide +kernel
theorem dX13_afloatAt_6 : decode cX13_afloatAt 6 = .ok (.getfield 7, 3) := by decide +kernel
theorem dX13_afloatAt_9 : decode cX13_afloatAt 9 = .ok (.bipush 9, 2) := by decide +kernel
theorem dX13_afloatAt_11 : decode cX13_afloatAt 11 = .ok (.iaload, 1) := by decide +kernel
theorem dX13_afloatAt_12 : decode cX13_afloatAt 12 = .ok (.if_icmp .ge 35, 3) := by decide +kernel
theorem dX13_afloatAt_15 : decode cX13_afloatAt 15 = .ok (.iload_n 2, 1) := by decide +kernel
theorem dX13_afloatAt_16 : decode cX13_afloatAt 16 = .ok (.aload_n 0, 1) := by decide +kernel
theorem dX13_afloatAt_17 : decode cX13_afloatAt 17 = .ok (.iload_n 3, 1) := by decide +kernel
theorem dX13_afloatAt_18 : decode cX13_afloatAt 18 = .ok (.invokevirtual 296, 3) := by decide +kernel
theorem dX13_afloatAt_21 : decode cX13_afloatAt 21 = .ok (.ifCond .eq 17, 3) := by decide +kernel
theorem dX13_afloatAt_24 : decode cX13_afloatAt 24 = .ok (.aload_n 0, 1) := by decide +kernel
theorem dX13_afloatAt_25 : decode cX13_afloatAt 25 = .ok (.iload_n 3, 1) := by decide +kernel
theorem dX13_afloatAt_26 : decode cX13_afloatAt 26 = .ok (.iconst 2, 1) := by decide +kernel
theorem dX13_afloatAt_27 : decode cX13_afloatAt 27 = .ok (.invokevirtual 80, 3) := by decide +kernel
theorem dX13_afloatAt_30 : decode cX13_afloatAt 30 = .ok (.iload_n 1, 1) := by decide +kernel
theorem dX13_afloatAt_31 : decode cX13_afloatAt 31 = .ok (.if_icmp .ne 7, 3) := by decide +kernel
theorem dX13_afloatAt_34 : decode cX13_afloatAt 34 = .ok (.iconst 1, 1) := by decide +kernel
theorem dX13_afloatAt_35 : decode cX13_afloatAt 35 = .ok (.goto 4, 3) := by decide +kernel
theorem dX13_afloatAt_38 : decode cX13_afloatAt 38 = .ok (.iconst 0, 1) := by decide +kernel
theorem dX13_afloatAt_39 : decode cX13_afloatAt 39 = .ok (.iadd, 1) := by decide +kernel
theorem dX13_afloatAt_40 : decode cX13_afloatAt 40 = .ok (.istore_n 2, 1) := by decide +kernel
theorem dX13_afloatAt_41 : decode cX13_afloatAt 41 = .ok (.iinc 3 1, 3) := by decide +kernel
theorem dX13_afloatAt_44 : decode cX13_afloatAt 44 = .ok (.goto (-40), 3) := by decide +kernel
theorem dX13_afloatAt_47 : decode cX13_afloatAt 47 = .ok (.iload_n 2, 1) := by decide +kernel
theorem dX13_afloatAt_48 : decode cX13_afloatAt 48 = .ok (.ireturn, 1) := by decide +kernel
theorem BX13_afloatAt_0 {d bc bs : Nat} {h : aH} {n : Nat} {Q : aQ} {r0 : Option Nat} {x1 : Int} {l2 l3 : Option aV} (k : Rn d bc bs mX13_afloatAt 4 [some (vR r0), some (vI x1), some (vI 0), some (vI 0)] [] h n Q) : Rn d (bc) (bs) mX13_afloatAt 0 [some (vR r0), some (vI x1), l2, l3] [] h n Q := by
  refine Rn_iconst dX13_afloatAt_0 rfl ?_
  refine Rn_istore_n dX13_afloatAt_1 rfl (Nat.le_of_ble_eq_true rfl) rfl rfl ?_
  refine Rn_iconst dX13_afloatAt_2 rfl ?_
  refine Rn_istore_n dX13_afloatAt_3 rfl (Nat.le_of_ble_eq_true rfl) rfl rfl ?_
  exact k
theorem BX13_afloatAt_4 {d bc bs : Nat} {h : aH} {n : Nat} {Q : aQ} {ar0 at3 : Nat} {x1 x2 x3 v7 : Int} {f1 : List aV} {w5 : List Int} (h2 : h ar0 = cO 13 f1) (g4 : f1[0]? = some (vR (some at3))) (h6 : h at3 = cI w5) (g8 : w5[(9 : Int).toNat]? = some v7) (kt : v7 ≤ x3 → Rn d bc bs mX13_afloatAt 47 [some (vR (some ar0)), some (vI x1), some (vI x2), some (vI x3)] [] h n Q) (kf : x3 < v7 → Rn d bc bs mX13_afloatAt 15 [some (vR (some ar0)), some (vI x1), some (vI x2), some (vI x3)] [] h n Q) : Rn d (bc) (bs) mX13_afloatAt 4 [some (vR (some ar0)), some (vI x1), some (vI x2), some (vI x3)] [] h n Q := by
  refine Rn_iload_n dX13_afloatAt_4 rfl rfl ?_
  refine Rn_aload_n dX13_afloatAt_5 rfl rfl rfl ?_
  refine Rn_getfield (ci := 13) (k := 0) dX13_afloatAt_6 rfl in_13 (Nat.le_of_ble_eq_true rfl) wd_1352 rfl h2 g4 ?_
  refine Rn_bipush dX13_afloatAt_9 rfl ?_
  refine Rn_iaload dX13_afloatAt_11 h6 (by decide) g8 ?_
  refine Rn_icmpge (tgt := 47) dX13_afloatAt_12 rfl ?_ ?_
  · exact kt
  · exact kf
theorem BX13_afloatAt_15 {d bc bs : Nat} {h : aH} {n : Nat} {Q : aQ} {ar0 : Nat} {x1 x2 x3 : Int} {f1 : List aV} (h2 : h ar0 = cO 13 f1) (k : Rn d 0 0 mX13_isAfloat 0 [some (vR (some ar0)), some (vI x3)] [] h n (fun v h1 n1 => Rn (d + 1) bc bs mX13_afloatAt 21 [some (vR (some ar0)), some (vI x1), some (vI x2), some (vI x3)] (v.toList ++ [vI x2]) h1 n1 Q)) : Rn (d + 1) (bc) (bs) mX13_afloatAt 15 [some (vR (some ar0)), some (vI x1), some (vI x2), some (vI x3)] [] h n Q := by
  refine Rn_iload_n dX13_afloatAt_15 rfl rfl ?_
  refine Rn_aload_n dX13_afloatAt_16 rfl rfl rfl ?_
  refine Rn_iload_n dX13_afloatAt_17 rfl rfl ?_
  exact Rn_callV (ci := 13) (avs := [vI x3]) (st := [vI x2]) (bc1 := 0) (bs1 := 0) (bc2 := bc) (bs2 := bs) fx_X13_isAfloat dX13_afloatAt_18 wd_1674 wd_1676 wd_80 rfl h2 rfl (Nat.le_of_ble_eq_true rfl) (Nat.le_of_ble_eq_true rfl) (by omega) (by omega) (ls1 := [some (vR (some ar0)), some (vI x3)]) rfl k
theorem BX13_afloatAt_21 {d bc bs : Nat} {h : aH} {n : Nat} {Q : aQ} {r0 : Option Nat} {x1 x2 x3 s0 s1 : Int} (kt : s1 = 0 → Rn d bc bs mX13_afloatAt 38 [some (vR r0), some (vI x1), some (vI x2), some (vI x3)] [vI s0] h n Q) (kf : s1 ≠ 0 → Rn d bc bs mX13_afloatAt 24 [some (vR r0), some (vI x1), some (vI x2), some (vI x3)] [vI s0] h n Q) : Rn d (bc) (bs) mX13_afloatAt 21 [some (vR r0), some (vI x1), some (vI x2), some (vI x3)] [vI s1, vI s0] h n Q := by
  refine Rn_ifeq (tgt := 38) dX13_afloatAt_21 rfl ?_ ?_
  · exact kt
  · exact kf
theorem BX13_afloatAt_24 {d bc bs : Nat} {h : aH} {n : Nat} {Q : aQ} {ar0 : Nat} {x1 x2 x3 s0 : Int} {f1 : List aV} (h2 : h ar0 = cO 13 f1) (k : Rn d 0 0 mX13_get 0 [some (vR (some ar0)), some (vI x3), some (vI 2)] [] h n (fun v h1 n1 => Rn (d + 1) bc bs mX13_afloatAt 30 [some (vR (some ar0)), some (vI x1), some (vI x2), some (vI x3)] (v.toList ++ [vI s0]) h1 n1 Q)) : Rn (d + 1) (bc) (bs) mX13_afloatAt 24 [some (vR (some ar0)), some (vI x1), some (vI x2), some (vI x3)] [vI s0] h n Q := by
  refine Rn_aload_n dX13_afloatAt_24 rfl rfl rfl ?_
  refine Rn_iload_n dX13_afloatAt_25 rfl rfl ?_
  refine Rn_iconst dX13_afloatAt_26 rfl ?_
  exact Rn_callV (ci := 13) (avs := [vI x3, vI 2]) (st := [vI s0]) (bc1 := 0) (bs1 := 0) (bc2 := bc) (bs2 := bs) fx_X13_get dX13_afloatAt_27 wd_1682 wd_1684 wd_82 rfl h2 rfl (Nat.le_of_ble_eq_true rfl) (Nat.le_of_ble_eq_true rfl) (by omega) (by omega) (ls1 := [some (vR (some ar0)), some (vI x3), some (vI 2)]) rfl k
theorem BX13_afloatAt_30 {d bc bs : Nat} {h : aH} {n : Nat} {Q : aQ} {r0 : Option Nat} {x1 x2 x3 s0 s1 : Int} (kt : s1 ≠ x1 → Rn d bc bs mX13_afloatAt 38 [some (vR r0), some (vI x1), some (vI x2), some (vI x3)] [vI s0] h n Q) (kf : s1 = x1 → Rn d bc bs mX13_afloatAt 34 [some (vR r0), some (vI x1), some (vI x2), some (vI x3)] [vI s0] h n Q) : Rn d (bc) (bs) mX13_afloatAt 30 [some (vR r0), some (vI x1), some (vI x2), some (vI x3)] [vI s1, vI s0] h n Q := by
  refine Rn_iload_n dX13_afloatAt_30 rfl rfl ?_
  refine Rn_icmpne (tgt := 38) dX13_afloatAt_31 rfl ?_ ?_
  · exact kt
  · exact kf
theorem BX13_afloatAt_34 {d bc bs : Nat} {h : aH} {n : Nat} {Q : aQ} {r0 : Option Nat} {x1 x2 x3 s0 : Int} (b1 : -2147483648 ≤ s0 + 1 ∧ s0 + 1 < 2147483648) (b2 : -2147483648 ≤ x3 + 1 ∧ x3 + 1 < 2147483648) (k : Rn d bc bs mX13_afloatAt 4 [some (vR r0), some (vI x1), some (vI (s0 + 1)), some (vI (x3 + 1))] [] h n Q) : Rn d (bc) (bs) mX13_afloatAt 34 [some (vR r0), some (vI x1), some (vI x2), some (vI x3)] [vI s0] h n Q := by
  refine Rn_iconst dX13_afloatAt_34 rfl ?_
  refine Rn_goto (tgt := 39) dX13_afloatAt_35 rfl ?_
  refine Rn_iadd dX13_afloatAt_39 ?_
  rw [w32_id b1.1 b1.2]
  refine Rn_istore_n dX13_afloatAt_40 rfl (Nat.le_of_ble_eq_true rfl) rfl rfl ?_
  refine Rn_iinc dX13_afloatAt_41 rfl (Nat.le_of_ble_eq_true rfl) rfl rfl rfl ?_
  rw [w32_id b2.1 b2.2]
  refine Rn_goto (tgt := 4) dX13_afloatAt_44 rfl ?_
  exact k
theorem BX13_afloatAt_38 {d bc bs : Nat} {h : aH} {n : Nat} {Q : aQ} {r0 : Option Nat} {x1 x2 x3 s0 : Int} (b1 : -2147483648 ≤ s0 + 0 ∧ s0 + 0 < 2147483648) (b2 : -2147483648 ≤ x3 + 1 ∧ x3 + 1 < 2147483648) (k : Rn d bc bs mX13_afloatAt 4 [some (vR r0), some (vI x1), some (vI (s0 + 0)), some (vI (x3 + 1))] [] h n Q) : Rn d (bc) (bs) mX13_afloatAt 38 [some (vR r0), some (vI x1), some (vI x2), some (vI x3)] [vI s0] h n Q := by
  refine Rn_iconst dX13_afloatAt_38 rfl ?_
  refine Rn_iadd dX13_afloatAt_39 ?_
  rw [w32_id b1.1 b1.2]
  refine Rn_istore_n dX13_afloatAt_40 rfl (Nat.le_of_ble_eq_true rfl) rfl rfl ?_
  refine Rn_iinc dX13_afloatAt_41 rfl (Nat.le_of_ble_eq_true rfl) rfl rfl rfl ?_
  rw [w32_id b2.1 b2.2]
  refine Rn_goto (tgt := 4) dX13_afloatAt_44 rfl ?_
  exact k
theorem BX13_afloatAt_47 {d bc bs : Nat} {h : aH} {n : Nat} {Q : aQ} {r0 : Option Nat} {x1 x2 x3 : Int} (k : Q (some (vI x2)) h n) : Rn d (bc) (bs) mX13_afloatAt 47 [some (vR r0), some (vI x1), some (vI x2), some (vI x3)] [] h n Q := by
  refine Rn_iload_n dX13_afloatAt_47 rfl rfl ?_
  exact Rn_ireturn rfl dX13_afloatAt_48 k
theorem dX13_name_0 : decode cX13_name 0 = .ok (.aload_n 0, 1) := by decide +kernel
theorem dX13_name_1 : decode cX13_name 1 = .ok (.getfield 32, 3) := by decide +kernel
theorem dX13_name_4 : decode cX13_name 4 = .ok (.iconst 0, 1) := by decide +kernel
theorem dX13_name_5 : decode cX13_name 5 = .ok (.aload_n 0, 1) := by decide +kernel
theorem dX13_name_6 : decode cX13_name 6 = .ok (.getfield 7, 3) := by decide +kernel
theorem dX13_name_9 : decode cX13_name 9 = .ok (.bipush 7, 2) := by decide +kernel
theorem dX13_name_11 : decode cX13_name 11 = .ok (.iaload, 1) := by decide +kernel
theorem dX13_name_12 : decode cX13_name 12 = .ok (.iastore, 1) := by decide +kernel
theorem dX13_name_13 : decode cX13_name 13 = .ok (.aload_n 0, 1) := by decide +kernel
theorem dX13_name_14 : decode cX13_name 14 = .ok (.getfield 32, 3) := by decide +kernel
theorem dX13_name_17 : decode cX13_name 17 = .ok (.iconst 1, 1) := by decide +kernel
theorem dX13_name_18 : decode cX13_name 18 = .ok (.aload_n 0, 1) := by decide +kernel
theorem dX13_name_19 : decode cX13_name 19 = .ok (.getfield 7, 3) := by decide +kernel
theorem dX13_name_22 : decode cX13_name 22 = .ok (.bipush 7, 2) := by decide +kernel
theorem dX13_name_24 : decode cX13_name 24 = .ok (.iaload, 1) := by decide +kernel
theorem dX13_name_25 : decode cX13_name 25 = .ok (.aload_n 0, 1) := by decide +kernel
theorem dX13_name_26 : decode cX13_name 26 = .ok (.iload_n 1, 1) := by decide +kernel
theorem dX13_name_27 : decode cX13_name 27 = .ok (.iconst 5, 1) := by decide +kernel
theorem dX13_name_28 : decode cX13_name 28 = .ok (.invokevirtual 80, 3) := by decide +kernel
theorem dX13_name_31 : decode cX13_name 31 = .ok (.isub, 1) := by decide +kernel
theorem dX13_name_32 : decode cX13_name 32 = .ok (.iastore, 1) := by decide +kernel
theorem dX13_name_33 : decode cX13_name 33 = .ok (.aload_n 0, 1) := by decide +kernel
theorem dX13_name_34 : decode cX13_name 34 = .ok (.getfield 32, 3) := by decide +kernel
theorem dX13_name_37 : decode cX13_name 37 = .ok (.iconst 2, 1) := by decide +kernel
theorem dX13_name_38 : decode cX13_name 38 = .ok (.aload_n 0, 1) := by decide +kernel
theorem dX13_name_39 : decode cX13_name 39 = .ok (.iload_n 1, 1) := by decide +kernel
theorem dX13_name_40 : decode cX13_name 40 = .ok (.iconst 3, 1) := by decide +kernel
theorem dX13_name_41 : decode cX13_name 41 = .ok (.invokevirtual 80, 3) := by decide +kernel
theorem dX13_name_44 : decode cX13_name 44 = .ok (.iastore, 1) := by decide +kernel
theorem dX13_name_45 : decode cX13_name 45 = .ok (.aload_n 0, 1) := by decide +kernel
theorem dX13_name_46 : decode cX13_name 46 = .ok (.getfield 32, 3) := by decide +kernel
theorem dX13_name_49 : decode cX13_name 49 = .ok (.iconst 3, 1) := by decide +kernel
theorem dX13_name_50 : decode cX13_name 50 = .ok (.aload_n 0, 1) := by decide +kernel
theorem dX13_name_51 : decode cX13_name 51 = .ok (.aload_n 0, 1) := by decide +kernel
theorem dX13_name_52 : decode cX13_name 52 = .ok (.iload_n 1, 1) := by decide +kernel
theorem dX13_name_53 : decode cX13_name 53 = .ok (.iconst 1, 1) := by decide +kernel
theorem dX13_name_54 : decode cX13_name 54 = .ok (.invokevirtual 80, 3) := by decide +kernel
theorem dX13_name_57 : decode cX13_name 57 = .ok (.iconst 1, 1) := by decide +kernel
theorem dX13_name_58 : decode cX13_name 58 = .ok (.invokevirtual 267, 3) := by decide +kernel
theorem dX13_name_61 : decode cX13_name 61 = .ok (.iastore, 1) := by decide +kernel
theorem dX13_name_62 : decode cX13_name 62 = .ok (.aload_n 0, 1) := by decide +kernel
theorem dX13_name_63 : decode cX13_name 63 = .ok (.getfield 32, 3) := by decide +kernel
theorem dX13_name_66 : decode cX13_name 66 = .ok (.iconst 4, 1) := by decide +kernel
theorem dX13_name_67 : decode cX13_name 67 = .ok (.aload_n 0, 1) := by decide +kernel
theorem dX13_name_68 : decode cX13_name 68 = .ok (.iload_n 1, 1) := by decide +kernel
theorem dX13_name_69 : decode cX13_name 69 = .ok (.iconst 2, 1) := by decide +kernel
theorem dX13_name_70 : decode cX13_name 70 = .ok (.invokevirtual 80, 3) := by decide +kernel
theorem dX13_name_73 : decode cX13_name 73 = .ok (.iastore, 1) := by decide +kernel
theorem dX13_name_74 : decode cX13_name 74 = .ok (.aload_n 0, 1) := by decide +kernel
theorem dX13_name_75 : decode cX13_name 75 = .ok (.getfield 32, 3) := by decide +kernel
theorem dX13_name_78 : decode cX13_name 78 = .ok (.iconst 5, 1) := by decide +kernel
theorem dX13_name_79 : decode cX13_name 79 = .ok (.aload_n 0, 1) := by decide +kernel
theorem dX13_name_80 : decode cX13_name 80 = .ok (.iload_n 1, 1) := by decide +kernel
theorem dX13_name_81 : decode cX13_name 81 = .ok (.iconst 0, 1) := by decide +kernel
theorem dX13_name_82 : decode cX13_name 82 = .ok (.invokevirtual 80, 3) := by decide +kernel
theorem dX13_name_85 : decode cX13_name 85 = .ok (.iastore, 1) := by decide +kernel
theorem dX13_name_86 : decode cX13_name 86 = .ok (.aload_n 0, 1) := by decide +kernel
theorem dX13_name_87 : decode cX13_name 87 = .ok (.getfield 32, 3) := by decide +kernel
theorem dX13_name_90 : decode cX13_name 90 = .ok (.bipush 6, 2) := by decide +kernel
theorem dX13_name_92 : decode cX13_name 92 = .ok (.aload_n 0, 1) := by decide +kernel
theorem dX13_name_93 : decode cX13_name 93 = .ok (.iload_n 1, 1) := by decide +kernel
theorem dX13_name_94 : decode cX13_name 94 = .ok (.iconst 1, 1) := by decide +kernel
theorem dX13_name_95 : decode cX13_name 95 = .ok (.invokevirtual 80, 3) := by decide +kernel
theorem dX13_name_98 : decode cX13_name 98 = .ok (.iastore, 1) := by decide +kernel
theorem dX13_name_99 : decode cX13_name 99 = .ok (.aload_n 0, 1) := by decide +kernel
theorem dX13_name_100 : decode cX13_name 100 = .ok (.getfield 32, 3) := by decide +kernel
theorem dX13_name_103 : decode cX13_name 103 = .ok (.bipush 7, 2) := by decide +kernel
theorem dX13_name_105 : decode cX13_name 105 = .ok (.aload_n 0, 1) := by decide +kernel
theorem dX13_name_106 : decode cX13_name 106 = .ok (.aload_n 0, 1) := by decide +kernel
theorem dX13_name_107 : decode cX13_name 107 = .ok (.iload_n 1, 1) := by decide +kernel
theorem dX13_name_108 : decode cX13_name 108 = .ok (.iconst 2, 1) := by decide +kernel
theorem dX13_name_109 : decode cX13_name 109 = .ok (.invokevirtual 80, 3) := by decide +kernel
theorem dX13_name_112 : decode cX13_name 112 = .ok (.invokevirtual 299, 3) := by decide +kernel
theorem dX13_name_115 : decode cX13_name 115 = .ok (.iastore, 1) := by decide +kernel
theorem dX13_name_116 : decode cX13_name 116 = .ok (.return_, 1) := by decide +kernel
theorem BX13_name_0 {d bc bs : Nat} {h : aH} {n : Nat} {Q : aQ} {ar0 at3 at5 : Nat} {x1 v9 : Int} {f1 : List aV} {w7 w11 : List Int} (h2 : h ar0 = cO 13 f1) (g4 : f1[20]? = some (vR (some at3))) (g6 : f1[0]? = some (vR (some at5))) (h8 : h at5 = cI w7) (g10 : w7[(7 : Int).toNat]? = some v9) (h12 : h at3 = cI w11) (j13 : (0 : Int) < w11.length) (z14 : at3 ≠ 0) (k : Rn d bc bs mX13_name 13 [some (vR (some ar0)), some (vI x1)] [] (up h at3 (cI (w11.set (0 : Int).toNat v9))) n Q) : Rn d (bc) (bs) mX13_name 0 [some (vR (some ar0)), some (vI x1)] [] h n Q := by
  refine Rn_aload_n dX13_name_0 rfl rfl rfl ?_
  refine Rn_getfield (ci := 13) (k := 20) dX13_name_1 rfl in_13 (Nat.le_of_ble_eq_true rfl) wd_1372 rfl h2 g4 ?_
  refine Rn_iconst dX13_name_4 rfl ?_
  refine Rn_aload_n dX13_name_5 rfl rfl rfl ?_
  refine Rn_getfield (ci := 13) (k := 0) dX13_name_6 rfl in_13 (Nat.le_of_ble_eq_true rfl) wd_1352 rfl h2 g6 ?_
  refine Rn_bipush dX13_name_9 rfl ?_
  refine Rn_iaload dX13_name_11 h8 (by decide) g10 ?_
  refine Rn_iastore dX13_name_12 z14 h12 (by decide) j13 ?_
  exact k
theorem BX13_name_13 {d bc bs : Nat} {h : aH} {n : Nat} {Q : aQ} {ar0 at5 : Nat} {x1 v9 : Int} {f1 : List aV} {t3 : Option Nat} {w7 : List Int} (h2 : h ar0 = cO 13 f1) (g4 : f1[20]? = some (vR t3)) (g6 : f1[0]? = some (vR (some at5))) (h8 : h at5 = cI w7) (g10 : w7[(7 : Int).toNat]? = some v9) (k : Rn d 0 0 mX13_get 0 [some (vR (some ar0)), some (vI x1), some (vI 5)] [] h n (fun v h1 n1 => Rn (d + 1) bc bs mX13_name 31 [some (vR (some ar0)), some (vI x1)] (v.toList ++ [vI v9, vI 1, vR t3]) h1 n1 Q)) : Rn (d + 1) (bc) (bs) mX13_name 13 [some (vR (some ar0)), some (vI x1)] [] h n Q := by
  refine Rn_aload_n dX13_name_13 rfl rfl rfl ?_
  refine Rn_getfield (ci := 13) (k := 20) dX13_name_14 rfl in_13 (Nat.le_of_ble_eq_true rfl) wd_1372 rfl h2 g4 ?_
  refine Rn_iconst dX13_name_17 rfl ?_
  refine Rn_aload_n dX13_name_18 rfl rfl rfl ?_
  refine Rn_getfield (ci := 13) (k := 0) dX13_name_19 rfl in_13 (Nat.le_of_ble_eq_true rfl) wd_1352 rfl h2 g6 ?_
  refine Rn_bipush dX13_name_22 rfl ?_
  refine Rn_iaload dX13_name_24 h8 (by decide) g10 ?_
  refine Rn_aload_n dX13_name_25 rfl rfl rfl ?_
  refine Rn_iload_n dX13_name_26 rfl rfl ?_
  refine Rn_iconst dX13_name_27 rfl ?_
  exact Rn_callV (ci := 13) (avs := [vI x1, vI 5]) (st := [vI v9, vI 1, vR t3]) (bc1 := 0) (bs1 := 0) (bc2 := bc) (bs2 := bs) fx_X13_get dX13_name_28 wd_1682 wd_1684 wd_82 rfl h2 rfl (Nat.le_of_ble_eq_true rfl) (Nat.le_of_ble_eq_true rfl) (by omega) (by omega) (ls1 := [some (vR (some ar0)), some (vI x1), some (vI 5)]) rfl k
theorem BX13_name_31 {d bc bs : Nat} {h : aH} {n : Nat} {Q : aQ} {r0 : Option Nat} {x1 s1 s2 s3 : Int} {aq0 : Nat} {w2 : List Int} (b1 : -2147483648 ≤ s2 - s3 ∧ s2 - s3 < 2147483648) (h3 : h aq0 = cI w2) (i4 : 0 ≤ s1) (j5 : s1 < w2.length) (z6 : aq0 ≠ 0) (k : Rn d bc bs mX13_name 33 [some (vR r0), some (vI x1)] [] (up h aq0 (cI (w2.set (s1 : Int).toNat (s2 - s3)))) n Q) : Rn d (bc) (bs) mX13_name 31 [some (vR r0), some (vI x1)] [vI s3, vI s2, vI s1, vR (some aq0)] h n Q := by
  refine Rn_isub dX13_name_31 ?_
  rw [w32_id b1.1 b1.2]
  refine Rn_iastore dX13_name_32 z6 h3 i4 j5 ?_
  exact k
theorem BX13_name_33 {d bc bs : Nat} {h : aH} {n : Nat} {Q : aQ} {ar0 : Nat} {x1 : Int} {f1 : List aV} {t3 : Option Nat} (h2 : h ar0 = cO 13 f1) (g4 : f1[20]? = some (vR t3)) (k : Rn d 0 0 mX13_get 0 [some (vR (some ar0)), some (vI x1), some (vI 3)] [] h n (fun v h1 n1 => Rn (d + 1) bc bs mX13_name 44 [some (vR (some ar0)), some (vI x1)] (v.toList ++ [vI 2, vR t3]) h1 n1 Q)) : Rn (d + 1) (bc) (bs) mX13_name 33 [some (vR (some ar0)), some (vI x1)] [] h n Q := by
  refine Rn_aload_n dX13_name_33 rfl rfl rfl ?_
  refine Rn_getfield (ci := 13) (k := 20) dX13_name_34 rfl in_13 (Nat.le_of_ble_eq_true rfl) wd_1372 rfl h2 g4 ?_
  refine Rn_iconst dX13_name_37 rfl ?_
  refine Rn_aload_n dX13_name_38 rfl rfl rfl ?_
  refine Rn_iload_n dX13_name_39 rfl rfl ?_
  refine Rn_iconst dX13_name_40 rfl ?_
  exact Rn_callV (ci := 13) (avs := [vI x1, vI 3]) (st := [vI 2, vR t3]) (bc1 := 0) (bs1 := 0) (bc2 := bc) (bs2 := bs) fx_X13_get dX13_name_41 wd_1682 wd_1684 wd_82 rfl h2 rfl (Nat.le_of_ble_eq_true rfl) (Nat.le_of_ble_eq_true rfl) (by omega) (by omega) (ls1 := [some (vR (some ar0)), some (vI x1), some (vI 3)]) rfl k
theorem BX13_name_44 {d bc bs : Nat} {h : aH} {n : Nat} {Q : aQ} {r0 : Option Nat} {x1 s1 s2 : Int} {aq0 : Nat} {w1 : List Int} (h2 : h aq0 = cI w1) (i3 : 0 ≤ s1) (j4 : s1 < w1.length) (z5 : aq0 ≠ 0) (k : Rn d bc bs mX13_name 45 [some (vR r0), some (vI x1)] [] (up h aq0 (cI (w1.set (s1 : Int).toNat s2))) n Q) : Rn d (bc) (bs) mX13_name 44 [some (vR r0), some (vI x1)] [vI s2, vI s1, vR (some aq0)] h n Q := by
  refine Rn_iastore dX13_name_44 z5 h2 i3 j4 ?_
  exact k
theorem BX13_name_45 {d bc bs : Nat} {h : aH} {n : Nat} {Q : aQ} {ar0 : Nat} {x1 : Int} {f1 : List aV} {t3 : Option Nat} (h2 : h ar0 = cO 13 f1) (g4 : f1[20]? = some (vR t3)) (k : Rn d 0 0 mX13_get 0 [some (vR (some ar0)), some (vI x1), some (vI 1)] [] h n (fun v h1 n1 => Rn (d + 1) bc bs mX13_name 57 [some (vR (some ar0)), some (vI x1)] (v.toList ++ [vR (some ar0), vI 3, vR t3]) h1 n1 Q)) : Rn (d + 1) (bc) (bs) mX13_name 45 [some (vR (some ar0)), some (vI x1)] [] h n Q := by
  refine Rn_aload_n dX13_name_45 rfl rfl rfl ?_
  refine Rn_getfield (ci := 13) (k := 20) dX13_name_46 rfl in_13 (Nat.le_of_ble_eq_true rfl) wd_1372 rfl h2 g4 ?_
  refine Rn_iconst dX13_name_49 rfl ?_
  refine Rn_aload_n dX13_name_50 rfl rfl rfl ?_
  refine Rn_aload_n dX13_name_51 rfl rfl rfl ?_
  refine Rn_iload_n dX13_name_52 rfl rfl ?_
  refine Rn_iconst dX13_name_53 rfl ?_
  exact Rn_callV (ci := 13) (avs := [vI x1, vI 1]) (st := [vR (some ar0), vI 3, vR t3]) (bc1 := 0) (bs1 := 0) (bc2 := bc) (bs2 := bs) fx_X13_get dX13_name_54 wd_1682 wd_1684 wd_82 rfl h2 rfl (Nat.le_of_ble_eq_true rfl) (Nat.le_of_ble_eq_true rfl) (by omega) (by omega) (ls1 := [some (vR (some ar0)), some (vI x1), some (vI 1)]) rfl k
theorem BX13_name_57 {d bc bs : Nat} {h : aH} {n : Nat} {Q : aQ} {r0 q0 : Option Nat} {x1 s1 s3 : Int} {aq2 : Nat} {f1 : List aV} (h2 : h aq2 = cO 13 f1) (k : Rn d 0 0 mX13_own 0 [some (vR (some aq2)), some (vI s3), some (vI 1)] [] h n (fun v h1 n1 => Rn (d + 1) bc bs mX13_name 61 [some (vR r0), some (vI x1)] (v.toList ++ [vI s1, vR q0]) h1 n1 Q)) : Rn (d + 1) (bc) (bs) mX13_name 57 [some (vR r0), some (vI x1)] [vI s3, vR (some aq2), vI s1, vR q0] h n Q := by
  refine Rn_iconst dX13_name_57 rfl ?_
  exact Rn_callV (ci := 13) (avs := [vI s3, vI 1]) (st := [vI s1, vR q0]) (bc1 := 0) (bs1 := 0) (bc2 := bc) (bs2 := bs) fx_X13_own dX13_name_58 wd_1662 wd_1664 wd_78 rfl h2 rfl (Nat.le_of_ble_eq_true rfl) (Nat.le_of_ble_eq_true rfl) (by omega) (by omega) (ls1 := [some (vR (some aq2)), some (vI s3), some (vI 1)]) rfl k
theorem BX13_name_61 {d bc bs : Nat} {h : aH} {n : Nat} {Q : aQ} {r0 : Option Nat} {x1 s1 s2 : Int} {aq0 : Nat} {w1 : List Int} (h2 : h aq0 = cI w1) (i3 : 0 ≤ s1) (j4 : s1 < w1.length) (z5 : aq0 ≠ 0) (k : Rn d bc bs mX13_name 62 [some (vR r0), some (vI x1)] [] (up h aq0 (cI (w1.set (s1 : Int).toNat s2))) n Q) : Rn d (bc) (bs) mX13_name 61 [some (vR r0), some (vI x1)] [vI s2, vI s1, vR (some aq0)] h n Q := by
  refine Rn_iastore dX13_name_61 z5 h2 i3 j4 ?_
  exact k
theorem BX13_name_62 {d bc bs : Nat} {h : aH} {n : Nat} {Q : aQ} {ar0 : Nat} {x1 : Int} {f1 : List aV} {t3 : Option Nat} (h2 : h ar0 = cO 13 f1) (g4 : f1[20]? = some (vR t3)) (k : Rn d 0 0 mX13_get 0 [some (vR (some ar0)), some (vI x1), some (vI 2)] [] h n (fun v h1 n1 => Rn (d + 1) bc bs mX13_name 73 [some (vR (some ar0)), some (vI x1)] (v.toList ++ [vI 4, vR t3]) h1 n1 Q)) : Rn (d + 1) (bc) (bs) mX13_name 62 [some (vR (some ar0)), some (vI x1)] [] h n Q := by
  refine Rn_aload_n dX13_name_62 rfl rfl rfl ?_
  refine Rn_getfield (ci := 13) (k := 20) dX13_name_63 rfl in_13 (Nat.le_of_ble_eq_true rfl) wd_1372 rfl h2 g4 ?_
  refine Rn_iconst dX13_name_66 rfl ?_
  refine Rn_aload_n dX13_name_67 rfl rfl rfl ?_
  refine Rn_iload_n dX13_name_68 rfl rfl ?_
  refine Rn_iconst dX13_name_69 rfl ?_
  exact Rn_callV (ci := 13) (avs := [vI x1, vI 2]) (st := [vI 4, vR t3]) (bc1 := 0) (bs1 := 0) (bc2 := bc) (bs2 := bs) fx_X13_get dX13_name_70 wd_1682 wd_1684 wd_82 rfl h2 rfl (Nat.le_of_ble_eq_true rfl) (Nat.le_of_ble_eq_true rfl) (by omega) (by omega) (ls1 := [some (vR (some ar0)), some (vI x1), some (vI 2)]) rfl k
theorem BX13_name_73 {d bc bs : Nat} {h : aH} {n : Nat} {Q : aQ} {r0 : Option Nat} {x1 s1 s2 : Int} {aq0 : Nat} {w1 : List Int} (h2 : h aq0 = cI w1) (i3 : 0 ≤ s1) (j4 : s1 < w1.length) (z5 : aq0 ≠ 0) (k : Rn d bc bs mX13_name 74 [some (vR r0), some (vI x1)] [] (up h aq0 (cI (w1.set (s1 : Int).toNat s2))) n Q) : Rn d (bc) (bs) mX13_name 73 [some (vR r0), some (vI x1)] [vI s2, vI s1, vR (some aq0)] h n Q := by
  refine Rn_iastore dX13_name_73 z5 h2 i3 j4 ?_
  exact k
theorem BX13_name_74 {d bc bs : Nat} {h : aH} {n : Nat} {Q : aQ} {ar0 : Nat} {x1 : Int} {f1 : List aV} {t3 : Option Nat} (h2 : h ar0 = cO 13 f1) (g4 : f1[20]? = some (vR t3)) (k : Rn d 0 0 mX13_get 0 [some (vR (some ar0)), some (vI x1), some (vI 0)] [] h n (fun v h1 n1 => Rn (d + 1) bc bs mX13_name 85 [some (vR (some ar0)), some (vI x1)] (v.toList ++ [vI 5, vR t3]) h1 n1 Q)) : Rn (d + 1) (bc) (bs) mX13_name 74 [some (vR (some ar0)), some (vI x1)] [] h n Q := by
  refine Rn_aload_n dX13_name_74 rfl rfl rfl ?_
  refine Rn_getfield (ci := 13) (k := 20) dX13_name_75 rfl in_13 (Nat.le_of_ble_eq_true rfl) wd_1372 rfl h2 g4 ?_
  refine Rn_iconst dX13_name_78 rfl ?_
  refine Rn_aload_n dX13_name_79 rfl rfl rfl ?_
  refine Rn_iload_n dX13_name_80 rfl rfl ?_
  refine Rn_iconst dX13_name_81 rfl ?_
  exact Rn_callV (ci := 13) (avs := [vI x1, vI 0]) (st := [vI 5, vR t3]) (bc1 := 0) (bs1 := 0) (bc2 := bc) (bs2 := bs) fx_X13_get dX13_name_82 wd_1682 wd_1684 wd_82 rfl h2 rfl (Nat.le_of_ble_eq_true rfl) (Nat.le_of_ble_eq_true rfl) (by omega) (by omega) (ls1 := [some (vR (some ar0)), some (vI x1), some (vI 0)]) rfl k
theorem BX13_name_85 {d bc bs : Nat} {h : aH} {n : Nat} {Q : aQ} {r0 : Option Nat} {x1 s1 s2 : Int} {aq0 : Nat} {w1 : List Int} (h2 : h aq0 = cI w1) (i3 : 0 ≤ s1) (j4 : s1 < w1.length) (z5 : aq0 ≠ 0) (k : Rn d bc bs mX13_name 86 [some (vR r0), some (vI x1)] [] (up h aq0 (cI (w1.set (s1 : Int).toNat s2))) n Q) : Rn d (bc) (bs) mX13_name 85 [some (vR r0), some (vI x1)] [vI s2, vI s1, vR (some aq0)] h n Q := by
  refine Rn_iastore dX13_name_85 z5 h2 i3 j4 ?_
  exact k
theorem BX13_name_86 {d bc bs : Nat} {h : aH} {n : Nat} {Q : aQ} {ar0 : Nat} {x1 : Int} {f1 : List aV} {t3 : Option Nat} (h2 : h ar0 = cO 13 f1) (g4 : f1[20]? = some (vR t3)) (k : Rn d 0 0 mX13_get 0 [some (vR (some ar0)), some (vI x1), some (vI 1)] [] h n (fun v h1 n1 => Rn (d + 1) bc bs mX13_name 98 [some (vR (some ar0)), some (vI x1)] (v.toList ++ [vI 6, vR t3]) h1 n1 Q)) : Rn (d + 1) (bc) (bs) mX13_name 86 [some (vR (some ar0)), some (vI x1)] [] h n Q := by
  refine Rn_aload_n dX13_name_86 rfl rfl rfl ?_
  refine Rn_getfield (ci := 13) (k := 20) dX13_name_87 rfl in_13 (Nat.le_of_ble_eq_true rfl) wd_1372 rfl h2 g4 ?_
  refine Rn_bipush dX13_name_90 rfl ?_
  refine Rn_aload_n dX13_name_92 rfl rfl rfl ?_
  refine Rn_iload_n dX13_name_93 rfl rfl ?_
  refine Rn_iconst dX13_name_94 rfl ?_
  exact Rn_callV (ci := 13) (avs := [vI x1, vI 1]) (st := [vI 6, vR t3]) (bc1 := 0) (bs1 := 0) (bc2 := bc) (bs2 := bs) fx_X13_get dX13_name_95 wd_1682 wd_1684 wd_82 rfl h2 rfl (Nat.le_of_ble_eq_true rfl) (Nat.le_of_ble_eq_true rfl) (by omega) (by omega) (ls1 := [some (vR (some ar0)), some (vI x1), some (vI 1)]) rfl k
theorem BX13_name_98 {d bc bs : Nat} {h : aH} {n : Nat} {Q : aQ} {r0 : Option Nat} {x1 s1 s2 : Int} {aq0 : Nat} {w1 : List Int} (h2 : h aq0 = cI w1) (i3 : 0 ≤ s1) (j4 : s1 < w1.length) (z5 : aq0 ≠ 0) (k : Rn d bc bs mX13_name 99 [some (vR r0), some (vI x1)] [] (up h aq0 (cI (w1.set (s1 : Int).toNat s2))) n Q) : Rn d (bc) (bs) mX13_name 98 [some (vR r0), some (vI x1)] [vI s2, vI s1, vR (some aq0)] h n Q := by
  refine Rn_iastore dX13_name_98 z5 h2 i3 j4 ?_
  exact k
theorem BX13_name_99 {d bc bs : Nat} {h : aH} {n : Nat} {Q : aQ} {ar0 : Nat} {x1 : Int} {f1 : List aV} {t3 : Option Nat} (h2 : h ar0 = cO 13 f1) (g4 : f1[20]? = some (vR t3)) (k : Rn d 0 0 mX13_get 0 [some (vR (some ar0)), some (vI x1), some (vI 2)] [] h n (fun v h1 n1 => Rn (d + 1) bc bs mX13_name 112 [some (vR (some ar0)), some (vI x1)] (v.toList ++ [vR (some ar0), vI 7, vR t3]) h1 n1 Q)) : Rn (d + 1) (bc) (bs) mX13_name 99 [some (vR (some ar0)), some (vI x1)] [] h n Q := by
  refine Rn_aload_n dX13_name_99 rfl rfl rfl ?_
  refine Rn_getfield (ci := 13) (k := 20) dX13_name_100 rfl in_13 (Nat.le_of_ble_eq_true rfl) wd_1372 rfl h2 g4 ?_
  refine Rn_bipush dX13_name_103 rfl ?_
  refine Rn_aload_n dX13_name_105 rfl rfl rfl ?_
  refine Rn_aload_n dX13_name_106 rfl rfl rfl ?_
  refine Rn_iload_n dX13_name_107 rfl rfl ?_
  refine Rn_iconst dX13_name_108 rfl ?_
  exact Rn_callV (ci := 13) (avs := [vI x1, vI 2]) (st := [vR (some ar0), vI 7, vR t3]) (bc1 := 0) (bs1 := 0) (bc2 := bc) (bs2 := bs) fx_X13_get dX13_name_109 wd_1682 wd_1684 wd_82 rfl h2 rfl (Nat.le_of_ble_eq_true rfl) (Nat.le_of_ble_eq_true rfl) (by omega) (by omega) (ls1 := [some (vR (some ar0)), some (vI x1), some (vI 2)]) rfl k
theorem BX13_name_112 {d bc bs : Nat} {h : aH} {n : Nat} {Q : aQ} {r0 q0 : Option Nat} {x1 s1 s3 : Int} {aq2 : Nat} {f1 : List aV} (h2 : h aq2 = cO 13 f1) (k : Rn d 0 0 mX13_afloatAt 0 [some (vR (some aq2)), some (vI s3), none, none] [] h n (fun v h1 n1 => Rn (d + 1) bc bs mX13_name 115 [some (vR r0), some (vI x1)] (v.toList ++ [vI s1, vR q0]) h1 n1 Q)) : Rn (d + 1) (bc) (bs) mX13_name 112 [some (vR r0), some (vI x1)] [vI s3, vR (some aq2), vI s1, vR q0] h n Q := by
  exact Rn_callV (ci := 13) (avs := [vI s3]) (st := [vI s1, vR q0]) (bc1 := 0) (bs1 := 0) (bc2 := bc) (bs2 := bs) fx_X13_afloatAt dX13_name_112 wd_1734 wd_1736 wd_93 rfl h2 rfl (Nat.le_of_ble_eq_true rfl) (Nat.le_of_ble_eq_true rfl) (by omega) (by omega) (ls1 := [some (vR (some aq2)), some (vI s3), none, none]) rfl k
theorem BX13_name_115 {d bc bs : Nat} {h : aH} {n : Nat} {Q : aQ} {r0 : Option Nat} {x1 s1 s2 : Int} {aq0 : Nat} {w1 : List Int} (h2 : h aq0 = cI w1) (i3 : 0 ≤ s1) (j4 : s1 < w1.length) (z5 : aq0 ≠ 0) (k : Rn d bc bs mX13_name 116 [some (vR r0), some (vI x1)] [] (up h aq0 (cI (w1.set (s1 : Int).toNat s2))) n Q) : Rn d (bc) (bs) mX13_name 115 [some (vR r0), some (vI x1)] [vI s2, vI s1, vR (some aq0)] h n Q := by
  refine Rn_iastore dX13_name_115 z5 h2 i3 j4 ?_
  exact k
theorem BX13_name_116 {d bc bs : Nat} {h : aH} {n : Nat} {Q : aQ} {r0 : Option Nat} {x1 : Int} (k : Q none h n) : Rn d (bc) (bs) mX13_name 116 [some (vR r0), some (vI x1)] [] h n Q := by
  exact Rn_return rfl dX13_name_116 k
theorem dX13_comesOf_0 : decode cX13_comesOf 0 = .ok (.aload_n 0, 1) := by decide +kernel
theorem dX13_comesOf_1 : decode cX13_comesOf 1 = .ok (.iload_n 2, 1) := by decide +kernel
theorem dX13_comesOf_2 : decode cX13_comesOf 2 = .ok (.invokevirtual 302, 3) := by decide +kernel
theorem dX13_comesOf_5 : decode cX13_comesOf 5 = .ok (.aload_n 0, 1) := by decide +kernel
theorem dX13_comesOf_6 : decode cX13_comesOf 6 = .ok (.iload_n 1, 1) := by decide +kernel
theorem dX13_comesOf_7 : decode cX13_comesOf 7 = .ok (.iconst 0, 1) := by decide +kernel
theorem dX13_comesOf_8 : decode cX13_comesOf 8 = .ok (.aload_n 0, 1) := by decide +kernel
theorem dX13_comesOf_9 : decode cX13_comesOf 9 = .ok (.getfield 32, 3) := by decide +kernel
theorem dX13_comesOf_12 : decode cX13_comesOf 12 = .ok (.iconst 3, 1) := by decide +kernel
theorem dX13_comesOf_13 : decode cX13_comesOf 13 = .ok (.iaload, 1) := by decide +kernel
theorem dX13_comesOf_14 : decode cX13_comesOf 14 = .ok (.iconst 1, 1) := by decide +kernel
theorem dX13_comesOf_15 : decode cX13_comesOf 15 = .ok (.iadd, 1) := by decide +kernel
theorem dX13_comesOf_16 : decode cX13_comesOf 16 = .ok (.bipush 10, 2) := by decide +kernel
theorem dX13_comesOf_18 : decode cX13_comesOf 18 = .ok (.invokevirtual 305, 3) := by decide +kernel
theorem dX13_comesOf_21 : decode cX13_comesOf 21 = .ok (.ireturn, 1) := by decide +kernel
theorem BX13_comesOf_0 {d bc bs : Nat} {h : aH} {n : Nat} {Q : aQ} {ar0 : Nat} {x1 x2 : Int} {f1 : List aV} (h2 : h ar0 = cO 13 f1) (k : Rn d 0 0 mX13_name 0 [some (vR (some ar0)), some (vI x2)] [] h n (fun v h1 n1 => Rn (d + 1) bc bs mX13_comesOf 5 [some (vR (some ar0)), some (vI x1), some (vI x2)] (v.toList ++ []) h1 n1 Q)) : Rn (d + 1) (bc) (bs) mX13_comesOf 0 [some (vR (some ar0)), some (vI x1), some (vI x2)] [] h n Q := by
  refine Rn_aload_n dX13_comesOf_0 rfl rfl rfl ?_
  refine Rn_iload_n dX13_comesOf_1 rfl rfl ?_
  exact Rn_callV (ci := 13) (avs := [vI x2]) (st := []) (bc1 := 0) (bs1 := 0) (bc2 := bc) (bs2 := bs) fx_X13_name dX13_comesOf_2 wd_1730 wd_1732 wd_92 rfl h2 rfl (Nat.le_of_ble_eq_true rfl) (Nat.le_of_ble_eq_true rfl) (by omega) (by omega) (ls1 := [some (vR (some ar0)), some (vI x2)]) rfl k
theorem BX13_comesOf_5 {d bc bs : Nat} {h : aH} {n : Nat} {Q : aQ} {ar0 at3 : Nat} {x1 x2 v7 : Int} {f1 : List aV} {w5 : List Int} (h2 : h ar0 = cO 13 f1) (g4 : f1[20]? = some (vR (some at3))) (h6 : h at3 = cI w5) (g8 : w5[(3 : Int).toNat]? = some v7) (b9 : -2147483648 ≤ v7 + 1 ∧ v7 + 1 < 2147483648) (k : Rn d 0 0 mX13_says 0 [some (vR (some ar0)), some (vI x1), some (vI 0), some (vI (v7 + 1)), some (vI 10), none] [] h n (fun v h1 n1 => Rn (d + 1) bc bs mX13_comesOf 21 [some (vR (some ar0)), some (vI x1), some (vI x2)] (v.toList ++ []) h1 n1 Q)) : Rn (d + 1) (bc) (bs) mX13_comesOf 5 [some (vR (some ar0)), some (vI x1), some (vI x2)] [] h n Q := by
  refine Rn_aload_n dX13_comesOf_5 rfl rfl rfl ?_
  refine Rn_iload_n dX13_comesOf_6 rfl rfl ?_
  refine Rn_iconst dX13_comesOf_7 rfl ?_
  refine Rn_aload_n dX13_comesOf_8 rfl rfl rfl ?_
  refine Rn_getfield (ci := 13) (k := 20) dX13_comesOf_9 rfl in_13 (Nat.le_of_ble_eq_true rfl) wd_1372 rfl h2 g4 ?_
  refine Rn_iconst dX13_comesOf_12 rfl ?_
  refine Rn_iaload dX13_comesOf_13 h6 (by decide) g8 ?_
  refine Rn_iconst dX13_comesOf_14 rfl ?_
  refine Rn_iadd dX13_comesOf_15 ?_
  rw [w32_id b9.1 b9.2]
  refine Rn_bipush dX13_comesOf_16 rfl ?_
  exact Rn_callV (ci := 13) (avs := [vI x1, vI 0, vI (v7 + 1), vI 10]) (st := []) (bc1 := 0) (bs1 := 0) (bc2 := bc) (bs2 := bs) fx_X13_says dX13_comesOf_18 wd_1738 wd_1740 wd_94 rfl h2 rfl (Nat.le_of_ble_eq_true rfl) (Nat.le_of_ble_eq_true rfl) (by omega) (by omega) (ls1 := [some (vR (some ar0)), some (vI x1), some (vI 0), some (vI (v7 + 1)), some (vI 10), none]) rfl k
theorem BX13_comesOf_21 {d bc bs : Nat} {h : aH} {n : Nat} {Q : aQ} {r0 : Option Nat} {x1 x2 s0 : Int} (k : Q (some (vI s0)) h n) : Rn d (bc) (bs) mX13_comesOf 21 [some (vR r0), some (vI x1), some (vI x2)] [vI s0] h n Q := by
  exact Rn_ireturn rfl dX13_comesOf_21 k
theorem dX13_wearsOf_0 : decode cX13_wearsOf 0 = .ok (.aload_n 0, 1) := by decide +kernel
theorem dX13_wearsOf_1 : decode cX13_wearsOf 1 = .ok (.iload_n 1, 1) := by decide +kernel
theorem dX13_wearsOf_2 : decode cX13_wearsOf 2 = .ok (.invokevirtual 302, 3) := by decide +kernel
theorem dX13_wearsOf_5 : decode cX13_wearsOf 5 = .ok (.aload_n 0, 1) := by decide +kernel
theorem dX13_wearsOf_6 : decode cX13_wearsOf 6 = .ok (.aload_n 0, 1) := by decide +kernel
theorem dX13_wearsOf_7 : decode cX13_wearsOf 7 = .ok (.getfield 7, 3) := by decide +kernel
theorem dX13_wearsOf_10 : decode cX13_wearsOf 10 = .ok (.iconst 2, 1) := by decide +kernel
theorem dX13_wearsOf_11 : decode cX13_wearsOf 11 = .ok (.iaload, 1) := by decide +kernel
theorem dX13_wearsOf_12 : decode cX13_wearsOf 12 = .ok (.iconst 1, 1) := by decide +kernel
theorem dX13_wearsOf_13 : decode cX13_wearsOf 13 = .ok (.iconst 1, 1) := by decide +kernel
theorem dX13_wearsOf_14 : decode cX13_wearsOf 14 = .ok (.bipush 99, 2) := by decide +kernel
theorem dX13_wearsOf_16 : decode cX13_wearsOf 16 = .ok (.invokevirtual 305, 3) := by decide +kernel
theorem dX13_wearsOf_19 : decode cX13_wearsOf 19 = .ok (.ireturn, 1) := by decide +kernel
theorem BX13_wearsOf_0 {d bc bs : Nat} {h : aH} {n : Nat} {Q : aQ} {ar0 : Nat} {x1 : Int} {f1 : List aV} (h2 : h ar0 = cO 13 f1) (k : Rn d 0 0 mX13_name 0 [some (vR (some ar0)), some (vI x1)] [] h n (fun v h1 n1 => Rn (d + 1) bc bs mX13_wearsOf 5 [some (vR (some ar0)), some (vI x1)] (v.toList ++ []) h1 n1 Q)) : Rn (d + 1) (bc) (bs) mX13_wearsOf 0 [some (vR (some ar0)), some (vI x1)] [] h n Q := by
  refine Rn_aload_n dX13_wearsOf_0 rfl rfl rfl ?_
  refine Rn_iload_n dX13_wearsOf_1 rfl rfl ?_
  exact Rn_callV (ci := 13) (avs := [vI x1]) (st := []) (bc1 := 0) (bs1 := 0) (bc2 := bc) (bs2 := bs) fx_X13_name dX13_wearsOf_2 wd_1730 wd_1732 wd_92 rfl h2 rfl (Nat.le_of_ble_eq_true rfl) (Nat.le_of_ble_eq_true rfl) (by omega) (by omega) (ls1 := [some (vR (some ar0)), some (vI x1)]) rfl k
theorem BX13_wearsOf_5 {d bc bs : Nat} {h : aH} {n : Nat} {Q : aQ} {ar0 at3 : Nat} {x1 v7 : Int} {f1 : List aV} {w5 : List Int} (h2 : h ar0 = cO 13 f1) (g4 : f1[0]? = some (vR (some at3))) (h6 : h at3 = cI w5) (g8 : w5[(2 : Int).toNat]? = some v7) (k : Rn d 0 0 mX13_says 0 [some (vR (some ar0)), some (vI v7), some (vI 1), some (vI 1), some (vI 99), none] [] h n (fun v h1 n1 => Rn (d + 1) bc bs mX13_wearsOf 19 [some (vR (some ar0)), some (vI x1)] (v.toList ++ []) h1 n1 Q)) : Rn (d + 1) (bc) (bs) mX13_wearsOf 5 [some (vR (some ar0)), some (vI x1)] [] h n Q := by
  refine Rn_aload_n dX13_wearsOf_5 rfl rfl rfl ?_
  refine Rn_aload_n dX13_wearsOf_6 rfl rfl rfl ?_
  refine Rn_getfield (ci := 13) (k := 0) dX13_wearsOf_7 rfl in_13 (Nat.le_of_ble_eq_true rfl) wd_1352 rfl h2 g4 ?_
  refine Rn_iconst dX13_wearsOf_10 rfl ?_
  refine Rn_iaload dX13_wearsOf_11 h6 (by decide) g8 ?_
  refine Rn_iconst dX13_wearsOf_12 rfl ?_
  refine Rn_iconst dX13_wearsOf_13 rfl ?_
  refine Rn_bipush dX13_wearsOf_14 rfl ?_
  exact Rn_callV (ci := 13) (avs := [vI v7, vI 1, vI 1, vI 99]) (st := []) (bc1 := 0) (bs1 := 0) (bc2 := bc) (bs2 := bs) fx_X13_says dX13_wearsOf_16 wd_1738 wd_1740 wd_94 rfl h2 rfl (Nat.le_of_ble_eq_true rfl) (Nat.le_of_ble_eq_true rfl) (by omega) (by omega) (ls1 := [some (vR (some ar0)), some (vI v7), some (vI 1), some (vI 1), some (vI 99), none]) rfl k
theorem BX13_wearsOf_19 {d bc bs : Nat} {h : aH} {n : Nat} {Q : aQ} {r0 : Option Nat} {x1 s0 : Int} (k : Q (some (vI s0)) h n) : Rn d (bc) (bs) mX13_wearsOf 19 [some (vR r0), some (vI x1)] [vI s0] h n Q := by
  exact Rn_ireturn rfl dX13_wearsOf_19 k
theorem dX13_write_0 : decode cX13_write 0 = .ok (.aload_n 0, 1) := by decide +kernel
theorem dX13_write_1 : decode cX13_write 1 = .ok (.getfield 43, 3) := by decide +kernel
theorem dX13_write_4 : decode cX13_write 4 = .ok (.ifCond .ne 4, 3) := by decide +kernel
theorem dX13_write_7 : decode cX13_write 7 = .ok (.return_, 1) := by decide +kernel
theorem dX13_write_8 : decode cX13_write 8 = .ok (.aload_n 0, 1) := by decide +kernel
theorem dX13_write_9 : decode cX13_write 9 = .ok (.getfield 7, 3) := by decide +kernel
theorem dX13_write_12 : decode cX13_write 12 = .ok (.bipush 10, 2) := by decide +kernel
theorem dX13_write_14 : decode cX13_write 14 = .ok (.iaload, 1) := by decide +kernel
theorem dX13_write_15 : decode cX13_write 15 = .ok (.bipush 30, 2) := by decide +kernel
theorem dX13_write_17 : decode cX13_write 17 = .ok (.if_icmp .ne 50, 3) := by decide +kernel
theorem dX13_write_20 : decode cX13_write 20 = .ok (.iconst 1, 1) := by decide +kernel
theorem dX13_write_21 : decode cX13_write 21 = .ok (.istore_n 3, 1) := by decide +kernel
theorem dX13_write_22 : decode cX13_write 22 = .ok (.iload_n 3, 1) := by decide +kernel
theorem dX13_write_23 : decode cX13_write 23 = .ok (.bipush 30, 2) := by decide +kernel
theorem dX13_write_25 : decode cX13_write 25 = .ok (.if_icmp .ge 31, 3) := by decide +kernel
theorem dX13_write_28 : decode cX13_write 28 = .ok (.aload_n 0, 1) := by decide +kernel
theorem dX13_write_29 : decode cX13_write 29 = .ok (.getfield 7, 3) := by decide +kernel
theorem dX13_write_32 : decode cX13_write 32 = .ok (.sipush 3359, 3) := by decide +kernel
theorem dX13_write_35 : decode cX13_write 35 = .ok (.iload_n 3, 1) := by decide +kernel
theorem dX13_write_36 : decode cX13_write 36 = .ok (.iadd, 1) := by decide +kernel
theorem dX13_write_37 : decode cX13_write 37 = .ok (.iconst 1, 1) := by decide +kernel
theorem dX13_write_38 : decode cX13_write 38 = .ok (.isub, 1) := by decide +kernel
theorem dX13_write_39 : decode cX13_write 39 = .ok (.aload_n 0, 1) := by decide +kernel
theorem dX13_write_40 : decode cX13_write 40 = .ok (.getfield 7, 3) := by decide +kernel
theorem dX13_write_43 : decode cX13_write 43 = .ok (.sipush 3359, 3) := by decide +kernel
theorem dX13_write_46 : decode cX13_write 46 = .ok (.iload_n 3, 1) := by decide +kernel
theorem dX13_write_47 : decode cX13_write 47 = .ok (.iadd, 1) := by decide +kernel
theorem dX13_write_48 : decode cX13_write 48 = .ok (.iaload, 1) := by decide +kernel
theorem dX13_write_49 : decode cX13_write 49 = .ok (.iastore, 1) := by decide +kernel
theorem dX13_write_50 : decode cX13_write 50 = .ok (.iinc 3 1, 3) := by decide +kernel
theorem dX13_write_53 : decode cX13_write 53 = .ok (.goto (-31), 3) := by decide +kernel
theorem dX13_write_56 : decode cX13_write 56 = .ok (.aload_n 0, 1) := by decide +kernel
theorem dX13_write_57 : decode cX13_write 57 = .ok (.getfield 7, 3) := by decide +kernel
theorem dX13_write_60 : decode cX13_write 60 = .ok (.bipush 10, 2) := by decide +kernel
theorem dX13_write_62 : decode cX13_write 62 = .ok (.dup2, 1) := by decide +kernel
theorem dX13_write_63 : decode cX13_write 63 = .ok (.iaload, 1) := by decide +kernel
theorem dX13_write_64 : decode cX13_write 64 = .ok (.iconst 1, 1) := by decide +kernel
theorem dX13_write_65 : decode cX13_write 65 = .ok (.isub, 1) := by decide +kernel
theorem dX13_write_66 : decode cX13_write 66 = .ok (.iastore, 1) := by decide +kernel
theorem dX13_write_67 : decode cX13_write 67 = .ok (.aload_n 0, 1) := by decide +kernel
theorem dX13_write_68 : decode cX13_write 68 = .ok (.getfield 7, 3) := by decide +kernel
theorem dX13_write_71 : decode cX13_write 71 = .ok (.sipush 3359, 3) := by decide +kernel
theorem dX13_write_74 : decode cX13_write 74 = .ok (.aload_n 0, 1) := by decide +kernel
theorem dX13_write_75 : decode cX13_write 75 = .ok (.getfield 7, 3) := by decide +kernel
theorem dX13_write_78 : decode cX13_write 78 = .ok (.bipush 10, 2) := by decide +kernel
theorem dX13_write_80 : decode cX13_write 80 = .ok (.iaload, 1) := by decide +kernel
theorem dX13_write_81 : decode cX13_write 81 = .ok (.iadd, 1) := by decide +kernel
theorem dX13_write_82 : decode cX13_write 82 = .ok (.aload_n 0, 1) := by decide +kernel
theorem dX13_write_83 : decode cX13_write 83 = .ok (.getfield 7, 3) := by decide +kernel
theorem dX13_write_86 : decode cX13_write 86 = .ok (.bipush 7, 2) := by decide +kernel
theorem dX13_write_88 : decode cX13_write 88 = .ok (.iaload, 1) := by decide +kernel
theorem dX13_write_89 : decode cX13_write 89 = .ok (.bipush 12, 2) := by decide +kernel
theorem dX13_write_91 : decode cX13_write 91 = .ok (.imul, 1) := by decide +kernel
theorem dX13_write_92 : decode cX13_write 92 = .ok (.iload_n 1, 1) := by decide +kernel
theorem dX13_write_93 : decode cX13_write 93 = .ok (.iadd, 1) := by decide +kernel
theorem dX13_write_94 : decode cX13_write 94 = .ok (.iconst 3, 1) := by decide +kernel
theorem dX13_write_95 : decode cX13_write 95 = .ok (.imul, 1) := by decide +kernel
theorem dX13_write_96 : decode cX13_write 96 = .ok (.iload_n 2, 1) := by decide +kernel
theorem dX13_write_97 : decode cX13_write 97 = .ok (.iadd, 1) := by decide +kernel
theorem dX13_write_98 : decode cX13_write 98 = .ok (.bipush 10, 2) := by decide +kernel
theorem dX13_write_100 : decode cX13_write 100 = .ok (.imul, 1) := by decide +kernel
theorem dX13_write_101 : decode cX13_write 101 = .ok (.aload_n 0, 1) := by decide +kernel
theorem dX13_write_102 : decode cX13_write 102 = .ok (.iload_n 1, 1) := by decide +kernel
theorem dX13_write_103 : decode cX13_write 103 = .ok (.iconst 2, 1) := by decide +kernel
theorem dX13_write_104 : decode cX13_write 104 = .ok (.invokevirtual 80, 3) := by decide +kernel
theorem dX13_write_107 : decode cX13_write 107 = .ok (.iadd, 1) := by decide +kernel
theorem dX13_write_108 : decode cX13_write 108 = .ok (.iastore, 1) := by decide +kernel
theorem dX13_write_109 : decode cX13_write 109 = .ok (.aload_n 0, 1) := by decide +kernel
theorem dX13_write_110 : decode cX13_write 110 = .ok (.getfield 7, 3) := by decide +kernel
theorem dX13_write_113 : decode cX13_write 113 = .ok (.bipush 10, 2) := by decide +kernel
theorem dX13_write_115 : decode cX13_write 115 = .ok (.dup2, 1) := by decide +kernel
theorem dX13_write_116 : decode cX13_write 116 = .ok (.iaload, 1) := by decide +kernel
theorem dX13_write_117 : decode cX13_write 117 = .ok (.iconst 1, 1) := by decide +kernel
theorem dX13_write_118 : decode cX13_write 118 = .ok (.iadd, 1) := by decide +kernel
theorem dX13_write_119 : decode cX13_write 119 = .ok (.iastore, 1) := by decide +kernel
theorem dX13_write_120 : decode cX13_write 120 = .ok (.return_, 1) := by decide +kernel
theorem BX13_write_0 {d bc bs : Nat} {h : aH} {n : Nat} {Q : aQ} {ar0 : Nat} {x1 x2 v3 : Int} {l3 : Option aV} {f1 : List aV} (h2 : h ar0 = cO 13 f1) (g4 : f1[23]? = some (vI v3)) (kt : v3 ≠ 0 → Rn d bc bs mX13_write 8 [some (vR (some ar0)), some (vI x1), some (vI x2), l3] [] h n Q) (kf : v3 = 0 → Rn d bc bs mX13_write 7 [some (vR (some ar0)), some (vI x1), some (vI x2), l3] [] h n Q) : Rn d (bc) (bs) mX13_write 0 [some (vR (some ar0)), some (vI x1), some (vI x2), l3] [] h n Q := by
  refine Rn_aload_n dX13_write_0 rfl rfl rfl ?_
  refine Rn_getfield (ci := 13) (k := 23) dX13_write_1 rfl in_13 (Nat.le_of_ble_eq_true rfl) wd_1375 rfl h2 g4 ?_
  refine Rn_ifne (tgt := 8) dX13_write_4 rfl ?_ ?_
  · exact kt
  · exact kf
theorem BX13_write_7 {d bc bs : Nat} {h : aH} {n : Nat} {Q : aQ} {r0 : Option Nat} {x1 x2 : Int} {l3 : Option aV} (k : Q none h n) : Rn d (bc) (bs) mX13_write 7 [some (vR r0), some (vI x1), some (vI x2), l3] [] h n Q := by
  exact Rn_return rfl dX13_write_7 k
theorem BX13_write_8 {d bc bs : Nat} {h : aH} {n : Nat} {Q : aQ} {ar0 at3 : Nat} {x1 x2 v7 : Int} {l3 : Option aV} {f1 : List aV} {w5 : List Int} (h2 : h ar0 = cO 13 f1) (g4 : f1[0]? = some (vR (some at3))) (h6 : h at3 = cI w5) (g8 : w5[(10 : Int).toNat]? = some v7) (kt : v7 ≠ 30 → Rn d bc bs mX13_write 67 [some (vR (some ar0)), some (vI x1), some (vI x2), l3] [] h n Q) (kf : v7 = 30 → Rn d bc bs mX13_write 20 [some (vR (some ar0)), some (vI x1), some (vI x2), l3] [] h n Q) : Rn d (bc) (bs) mX13_write 8 [some (vR (some ar0)), some (vI x1), some (vI x2), l3] [] h n Q := by
  refine Rn_aload_n dX13_write_8 rfl rfl rfl ?_
  refine Rn_getfield (ci := 13) (k := 0) dX13_write_9 rfl in_13 (Nat.le_of_ble_eq_true rfl) wd_1352 rfl h2 g4 ?_
  refine Rn_bipush dX13_write_12 rfl ?_
  refine Rn_iaload dX13_write_14 h6 (by decide) g8 ?_
  refine Rn_bipush dX13_write_15 rfl ?_
  refine Rn_icmpne (tgt := 67) dX13_write_17 rfl ?_ ?_
  · exact kt
  · exact kf
theorem BX13_write_20 {d bc bs : Nat} {h : aH} {n : Nat} {Q : aQ} {r0 : Option Nat} {x1 x2 : Int} {l3 : Option aV} (k : Rn d bc bs mX13_write 22 [some (vR r0), some (vI x1), some (vI x2), some (vI 1)] [] h n Q) : Rn d (bc) (bs) mX13_write 20 [some (vR r0), some (vI x1), some (vI x2), l3] [] h n Q := by
  refine Rn_iconst dX13_write_20 rfl ?_
  refine Rn_istore_n dX13_write_21 rfl (Nat.le_of_ble_eq_true rfl) rfl rfl ?_
  exact k
theorem BX13_write_22 {d bc bs : Nat} {h : aH} {n : Nat} {Q : aQ} {r0 : Option Nat} {x1 x2 x3 : Int} (kt : 30 ≤ x3 → Rn d bc bs mX13_write 56 [some (vR r0), some (vI x1), some (vI x2), some (vI x3)] [] h n Q) (kf : x3 < 30 → Rn d bc bs mX13_write 28 [some (vR r0), some (vI x1), some (vI x2), some (vI x3)] [] h n Q) : Rn d (bc) (bs) mX13_write 22 [some (vR r0), some (vI x1), some (vI x2), some (vI x3)] [] h n Q := by
  refine Rn_iload_n dX13_write_22 rfl rfl ?_
  refine Rn_bipush dX13_write_23 rfl ?_
  refine Rn_icmpge (tgt := 56) dX13_write_25 rfl ?_ ?_
  · exact kt
  · exact kf
theorem BX13_write_28 {d bc bs : Nat} {h : aH} {n : Nat} {Q : aQ} {ar0 at3 : Nat} {x1 x2 x3 v9 : Int} {f1 : List aV} {w7 : List Int} (h2 : h ar0 = cO 13 f1) (g4 : f1[0]? = some (vR (some at3))) (b5 : -2147483648 ≤ 3359 + x3 ∧ 3359 + x3 < 2147483648) (b6 : -2147483648 ≤ (3359 + x3) - 1 ∧ (3359 + x3) - 1 < 2147483648) (h8 : h at3 = cI w7) (i10 : 0 ≤ 3359 + x3) (g11 : w7[(3359 + x3 : Int).toNat]? = some v9) (i12 : 0 ≤ (3359 + x3) - 1) (j13 : (3359 + x3) - 1 < w7.length) (z14 : at3 ≠ 0) (k : Rn d bc bs mX13_write 50 [some (vR (some ar0)), some (vI x1), some (vI x2), some (vI x3)] [] (up h at3 (cI (w7.set ((3359 + x3) - 1 : Int).toNat v9))) n Q) : Rn d (bc) (bs) mX13_write 28 [some (vR (some ar0)), some (vI x1), some (vI x2), some (vI x3)] [] h n Q := by
  refine Rn_aload_n dX13_write_28 rfl rfl rfl ?_
  refine Rn_getfield (ci := 13) (k := 0) dX13_write_29 rfl in_13 (Nat.le_of_ble_eq_true rfl) wd_1352 rfl h2 g4 ?_
  refine Rn_sipush dX13_write_32 rfl ?_
  refine Rn_iload_n dX13_write_35 rfl rfl ?_
  refine Rn_iadd dX13_write_36 ?_
  rw [w32_id b5.1 b5.2]
  refine Rn_iconst dX13_write_37 rfl ?_
  refine Rn_isub dX13_write_38 ?_
  rw [w32_id b6.1 b6.2]
  refine Rn_aload_n dX13_write_39 rfl rfl rfl ?_
  refine Rn_getfield (ci := 13) (k := 0) dX13_write_40 rfl in_13 (Nat.le_of_ble_eq_true rfl) wd_1352 rfl h2 g4 ?_
  refine Rn_sipush dX13_write_43 rfl ?_
  refine Rn_iload_n dX13_write_46 rfl rfl ?_
  refine Rn_iadd dX13_write_47 ?_
  rw [w32_id b5.1 b5.2]
  refine Rn_iaload dX13_write_48 h8 i10 g11 ?_
  refine Rn_iastore dX13_write_49 z14 h8 i12 j13 ?_
  exact k
theorem BX13_write_50 {d bc bs : Nat} {h : aH} {n : Nat} {Q : aQ} {r0 : Option Nat} {x1 x2 x3 : Int} (b1 : -2147483648 ≤ x3 + 1 ∧ x3 + 1 < 2147483648) (k : Rn d bc bs mX13_write 22 [some (vR r0), some (vI x1), some (vI x2), some (vI (x3 + 1))] [] h n Q) : Rn d (bc) (bs) mX13_write 50 [some (vR r0), some (vI x1), some (vI x2), some (vI x3)] [] h n Q := by
  refine Rn_iinc dX13_write_50 rfl (Nat.le_of_ble_eq_true rfl) rfl rfl rfl ?_
  rw [w32_id b1.1 b1.2]
  refine Rn_goto (tgt := 22) dX13_write_53 rfl ?_
  exact k
theorem BX13_write_56 {d bc bs : Nat} {h : aH} {n : Nat} {Q : aQ} {ar0 at3 : Nat} {x1 x2 x3 v7 : Int} {f1 : List aV} {w5 : List Int} (h2 : h ar0 = cO 13 f1) (g4 : f1[0]? = some (vR (some at3))) (h6 : h at3 = cI w5) (g8 : w5[(10 : Int).toNat]? = some v7) (b9 : -2147483648 ≤ v7 - 1 ∧ v7 - 1 < 2147483648) (j10 : (10 : Int) < w5.length) (z11 : at3 ≠ 0) (k : Rn d bc bs mX13_write 67 [some (vR (some ar0)), some (vI x1), some (vI x2), some (vI x3)] [] (up h at3 (cI (w5.set (10 : Int).toNat (v7 - 1)))) n Q) : Rn d (bc) (bs) mX13_write 56 [some (vR (some ar0)), some (vI x1), some (vI x2), some (vI x3)] [] h n Q := by
  refine Rn_aload_n dX13_write_56 rfl rfl rfl ?_
  refine Rn_getfield (ci := 13) (k := 0) dX13_write_57 rfl in_13 (Nat.le_of_ble_eq_true rfl) wd_1352 rfl h2 g4 ?_
  refine Rn_bipush dX13_write_60 rfl ?_
  refine Rn_dup2 dX13_write_62 rfl rfl ?_
  refine Rn_iaload dX13_write_63 h6 (by decide) g8 ?_
  refine Rn_iconst dX13_write_64 rfl ?_
  refine Rn_isub dX13_write_65 ?_
  rw [w32_id b9.1 b9.2]
  refine Rn_iastore dX13_write_66 z11 h6 (by decide) j10 ?_
  exact k
theorem BX13_write_67 {d bc bs : Nat} {h : aH} {n : Nat} {Q : aQ} {ar0 at3 : Nat} {x1 x2 v7 v10 : Int} {l3 : Option aV} {f1 : List aV} {w5 : List Int} (h2 : h ar0 = cO 13 f1) (g4 : f1[0]? = some (vR (some at3))) (h6 : h at3 = cI w5) (g8 : w5[(10 : Int).toNat]? = some v7) (b9 : -2147483648 ≤ 3359 + v7 ∧ 3359 + v7 < 2147483648) (g11 : w5[(7 : Int).toNat]? = some v10) (b12 : -2147483648 ≤ v10 * 12 ∧ v10 * 12 < 2147483648) (b13 : -2147483648 ≤ (v10 * 12) + x1 ∧ (v10 * 12) + x1 < 2147483648) (b14 : -2147483648 ≤ ((v10 * 12) + x1) * 3 ∧ ((v10 * 12) + x1) * 3 < 2147483648) (b15 : -2147483648 ≤ (((v10 * 12) + x1) * 3) + x2 ∧ (((v10 * 12) + x1) * 3) + x2 < 2147483648) (b16 : -2147483648 ≤ ((((v10 * 12) + x1) * 3) + x2) * 10 ∧ ((((v10 * 12) + x1) * 3) + x2) * 10 < 2147483648) (k : Rn d 0 0 mX13_get 0 [some (vR (some ar0)), some (vI x1), some (vI 2)] [] h n (fun v h1 n1 => Rn (d + 1) bc bs mX13_write 107 [some (vR (some ar0)), some (vI x1), some (vI x2), l3] (v.toList ++ [vI (((((v10 * 12) + x1) * 3) + x2) * 10), vI (3359 + v7), vR (some at3)]) h1 n1 Q)) : Rn (d + 1) (bc) (bs) mX13_write 67 [some (vR (some ar0)), some (vI x1), some (vI x2), l3] [] h n Q := by
  refine Rn_aload_n dX13_write_67 rfl rfl rfl ?_
  refine Rn_getfield (ci := 13) (k := 0) dX13_write_68 rfl in_13 (Nat.le_of_ble_eq_true rfl) wd_1352 rfl h2 g4 ?_
  refine Rn_sipush dX13_write_71 rfl ?_
  refine Rn_aload_n dX13_write_74 rfl rfl rfl ?_
  refine Rn_getfield (ci := 13) (k := 0) dX13_write_75 rfl in_13 (Nat.le_of_ble_eq_true rfl) wd_1352 rfl h2 g4 ?_
  refine Rn_bipush dX13_write_78 rfl ?_
  refine Rn_iaload dX13_write_80 h6 (by decide) g8 ?_
  refine Rn_iadd dX13_write_81 ?_
  rw [w32_id b9.1 b9.2]
  refine Rn_aload_n dX13_write_82 rfl rfl rfl ?_
  refine Rn_getfield (ci := 13) (k := 0) dX13_write_83 rfl in_13 (Nat.le_of_ble_eq_true rfl) wd_1352 rfl h2 g4 ?_
  refine Rn_bipush dX13_write_86 rfl ?_
  refine Rn_iaload dX13_write_88 h6 (by decide) g11 ?_
  refine Rn_bipush dX13_write_89 rfl ?_
  refine Rn_imul dX13_write_91 ?_
  rw [w32_id b12.1 b12.2]
  refine Rn_iload_n dX13_write_92 rfl rfl ?_
  refine Rn_iadd dX13_write_93 ?_
  rw [w32_id b13.1 b13.2]
  refine Rn_iconst dX13_write_94 rfl ?_
  refine Rn_imul dX13_write_95 ?_
  rw [w32_id b14.1 b14.2]
  refine Rn_iload_n dX13_write_96 rfl rfl ?_
  refine Rn_iadd dX13_write_97 ?_
  rw [w32_id b15.1 b15.2]
  refine Rn_bipush dX13_write_98 rfl ?_
  refine Rn_imul dX13_write_100 ?_
  rw [w32_id b16.1 b16.2]
  refine Rn_aload_n dX13_write_101 rfl rfl rfl ?_
  refine Rn_iload_n dX13_write_102 rfl rfl ?_
  refine Rn_iconst dX13_write_103 rfl ?_
  exact Rn_callV (ci := 13) (avs := [vI x1, vI 2]) (st := [vI (((((v10 * 12) + x1) * 3) + x2) * 10), vI (3359 + v7), vR (some at3)]) (bc1 := 0) (bs1 := 0) (bc2 := bc) (bs2 := bs) fx_X13_get dX13_write_104 wd_1682 wd_1684 wd_82 rfl h2 rfl (Nat.le_of_ble_eq_true rfl) (Nat.le_of_ble_eq_true rfl) (by omega) (by omega) (ls1 := [some (vR (some ar0)), some (vI x1), some (vI 2)]) rfl k
theorem BX13_write_107 {d bc bs : Nat} {h : aH} {n : Nat} {Q : aQ} {r0 : Option Nat} {x1 x2 s1 s2 s3 : Int} {l3 : Option aV} {aq0 : Nat} {w2 : List Int} (b1 : -2147483648 ≤ s2 + s3 ∧ s2 + s3 < 2147483648) (h3 : h aq0 = cI w2) (i4 : 0 ≤ s1) (j5 : s1 < w2.length) (z6 : aq0 ≠ 0) (k : Rn d bc bs mX13_write 109 [some (vR r0), some (vI x1), some (vI x2), l3] [] (up h aq0 (cI (w2.set (s1 : Int).toNat (s2 + s3)))) n Q) : Rn d (bc) (bs) mX13_write 107 [some (vR r0), some (vI x1), some (vI x2), l3] [vI s3, vI s2, vI s1, vR (some aq0)] h n Q := by
  refine Rn_iadd dX13_write_107 ?_
  rw [w32_id b1.1 b1.2]
  refine Rn_iastore dX13_write_108 z6 h3 i4 j5 ?_
  exact k
theorem BX13_write_109 {d bc bs : Nat} {h : aH} {n : Nat} {Q : aQ} {ar0 at3 : Nat} {x1 x2 v7 : Int} {l3 : Option aV} {f1 : List aV} {w5 : List Int} (h2 : h ar0 = cO 13 f1) (g4 : f1[0]? = some (vR (some at3))) (h6 : h at3 = cI w5) (g8 : w5[(10 : Int).toNat]? = some v7) (b9 : -2147483648 ≤ v7 + 1 ∧ v7 + 1 < 2147483648) (j10 : (10 : Int) < w5.length) (z11 : at3 ≠ 0) (k : Rn d bc bs mX13_write 120 [some (vR (some ar0)), some (vI x1), some (vI x2), l3] [] (up h at3 (cI (w5.set (10 : Int).toNat (v7 + 1)))) n Q) : Rn d (bc) (bs) mX13_write 109 [some (vR (some ar0)), some (vI x1), some (vI x2), l3] [] h n Q := by
  refine Rn_aload_n dX13_write_109 rfl rfl rfl ?_
  refine Rn_getfield (ci := 13) (k := 0) dX13_write_110 rfl in_13 (Nat.le_of_ble_eq_true rfl) wd_1352 rfl h2 g4 ?_
  refine Rn_bipush dX13_write_113 rfl ?_
  refine Rn_dup2 dX13_write_115 rfl rfl ?_
  refine Rn_iaload dX13_write_116 h6 (by decide) g8 ?_
  refine Rn_iconst dX13_write_117 rfl ?_
  refine Rn_iadd dX13_write_118 ?_
  rw [w32_id b9.1 b9.2]
  refine Rn_iastore dX13_write_119 z11 h6 (by decide) j10 ?_
  exact k
theorem BX13_write_120 {d bc bs : Nat} {h : aH} {n : Nat} {Q : aQ} {r0 : Option Nat} {x1 x2 : Int} {l3 : Option aV} (k : Q none h n) : Rn d (bc) (bs) mX13_write 120 [some (vR r0), some (vI x1), some (vI x2), l3] [] h n Q := by
  exact Rn_return rfl dX13_write_120 k
theorem dX13_anew_0 : decode cX13_anew 0 = .ok (.aload_n 0, 1) := by decide +kernel
theorem dX13_anew_1 : decode cX13_anew 1 = .ok (.getfield 7, 3) := by decide +kernel
theorem dX13_anew_4 : decode cX13_anew 4 = .ok (.bipush 8, 2) := by decide +kernel
theorem dX13_anew_6 : decode cX13_anew 6 = .ok (.aload_n 0, 1) := by decide +kernel
theorem dX13_anew_7 : decode cX13_anew 7 = .ok (.getfield 7, 3) := by decide +kernel
theorem dX13_anew_10 : decode cX13_anew 10 = .ok (.bipush 8, 2) := by decide +kernel
theorem dX13_anew_12 : decode cX13_anew 12 = .ok (.iaload, 1) := by decide +kernel
theorem dX13_anew_13 : decode cX13_anew 13 = .ok (.i2l, 1) := by decide +kernel
theorem dX13_anew_14 : decode cX13_anew 14 = .ok (.ldc2_w 309, 3) := by decide +kernel
theorem dX13_anew_17 : decode cX13_anew 17 = .ok (.lmul, 1) := by decide +kernel
theorem dX13_anew_18 : decode cX13_anew 18 = .ok (.ldc2_w 311, 3) := by decide +kernel
theorem dX13_anew_21 : decode cX13_anew 21 = .ok (.ladd, 1) := by decide +kernel
theorem dX13_anew_22 : decode cX13_anew 22 = .ok (.ldc2_w 313, 3) := by decide +kernel
theorem dX13_anew_25 : decode cX13_anew 25 = .ok (.lrem, 1) := by decide +kernel
theorem dX13_anew_26 : decode cX13_anew 26 = .ok (.l2i, 1) := by decide +kernel
theorem dX13_anew_27 : decode cX13_anew 27 = .ok (.iastore, 1) := by decide +kernel
theorem dX13_anew_28 : decode cX13_anew 28 = .ok (.return_, 1) := by decide +kernel
theorem BX13_anew_0 {d bc bs : Nat} {h : aH} {n : Nat} {Q : aQ} {ar0 at3 : Nat} {f1 : List aV} {w5 : List Int} {v7 : Int} (h2 : h ar0 = cO 13 f1) (g4 : f1[0]? = some (vR (some at3))) (h6 : h at3 = cI w5) (g8 : w5[(8 : Int).toNat]? = some v7) (b9 : -9223372036854775808 ≤ v7 * 461 ∧ v7 * 461 < 9223372036854775808) (b10 : -9223372036854775808 ≤ (v7 * 461) + 349 ∧ (v7 * 461) + 349 < 9223372036854775808) (b11 : 0 ≤ ((v7 * 461) + 349)) (b12 : -2147483648 ≤ ((v7 * 461) + 349) % 30637 ∧ ((v7 * 461) + 349) % 30637 < 2147483648) (j13 : (8 : Int) < w5.length) (z14 : at3 ≠ 0) (k : Rn d bc bs mX13_anew 28 [some (vR (some ar0))] [] (up h at3 (cI (w5.set (8 : Int).toNat (((v7 * 461) + 349) % 30637)))) n Q) : Rn d (bc) (bs) mX13_anew 0 [some (vR (some ar0))] [] h n Q := by
  refine Rn_aload_n dX13_anew_0 rfl rfl rfl ?_
  refine Rn_getfield (ci := 13) (k := 0) dX13_anew_1 rfl in_13 (Nat.le_of_ble_eq_true rfl) wd_1352 rfl h2 g4 ?_
  refine Rn_bipush dX13_anew_4 rfl ?_
  refine Rn_aload_n dX13_anew_6 rfl rfl rfl ?_
  refine Rn_getfield (ci := 13) (k := 0) dX13_anew_7 rfl in_13 (Nat.le_of_ble_eq_true rfl) wd_1352 rfl h2 g4 ?_
  refine Rn_bipush dX13_anew_10 rfl ?_
  refine Rn_iaload dX13_anew_12 h6 (by decide) g8 ?_
  refine Rn_i2l dX13_anew_13 ?_
  refine Rn_ldc2 (x := 461) dX13_anew_14 wd_1782 rfl ?_
  refine Rn_lmul dX13_anew_17 ?_
  rw [w64_id b9.1 b9.2]
  refine Rn_ldc2 (x := 349) dX13_anew_18 wd_1783 rfl ?_
  refine Rn_ladd dX13_anew_21 ?_
  rw [w64_id b10.1 b10.2]
  refine Rn_ldc2 (x := 30637) dX13_anew_22 wd_1784 rfl ?_
  refine Rn_lrem dX13_anew_25 (by decide) ?_
  rw [Int.tmod_eq_emod_of_nonneg b11]
  refine Rn_l2i dX13_anew_26 ?_
  rw [w32_id b12.1 b12.2]
  refine Rn_iastore dX13_anew_27 z14 h6 (by decide) j13 ?_
  exact k
theorem BX13_anew_28 {d bc bs : Nat} {h : aH} {n : Nat} {Q : aQ} {r0 : Option Nat} (k : Q none h n) : Rn d (bc) (bs) mX13_anew 28 [some (vR r0)] [] h n Q := by
  exact Rn_return rfl dX13_anew_28 k
theorem dX13_finish_0 : decode cX13_finish 0 = .ok (.aload_n 0, 1) := by decide +kernel
theorem dX13_finish_1 : decode cX13_finish 1 = .ok (.iload_n 1, 1) := by decide +kernel
theorem dX13_finish_2 : decode cX13_finish 2 = .ok (.iconst 4, 1) := by decide +kernel
theorem dX13_finish_3 : decode cX13_finish 3 = .ok (.iload_n 2, 1) := by decide +kernel
theorem dX13_finish_4 : decode cX13_finish 4 = .ok (.invokevirtual 315, 3) := by decide +kernel
theorem dX13_finish_7 : decode cX13_finish 7 = .ok (.aload_n 0, 1) := by decide +kernel
theorem dX13_finish_8 : decode cX13_finish 8 = .ok (.dup, 1) := by decide +kernel
theorem dX13_finish_9 : decode cX13_finish 9 = .ok (.getfield 319, 3) := by decide +kernel
theorem dX13_finish_12 : decode cX13_finish 12 = .ok (.iload_n 2, 1) := by decide +kernel
theorem dX13_finish_13 : decode cX13_finish 13 = .ok (.iconst 1, 1) := by decide +kernel
theorem dX13_finish_14 : decode cX13_finish 14 = .ok (.if_icmp .ne 7, 3) := by decide +kernel
theorem dX13_finish_17 : decode cX13_finish 17 = .ok (.iconst 1, 1) := by decide +kernel
theorem dX13_finish_18 : decode cX13_finish 18 = .ok (.goto 4, 3) := by decide +kernel
theorem dX13_finish_21 : decode cX13_finish 21 = .ok (.iconst 0, 1) := by decide +kernel
theorem dX13_finish_22 : decode cX13_finish 22 = .ok (.iadd, 1) := by decide +kernel
theorem dX13_finish_23 : decode cX13_finish 23 = .ok (.putfield 319, 3) := by decide +kernel
theorem dX13_finish_26 : decode cX13_finish 26 = .ok (.aload_n 0, 1) := by decide +kernel
theorem dX13_finish_27 : decode cX13_finish 27 = .ok (.iload_n 1, 1) := by decide +kernel
theorem dX13_finish_28 : decode cX13_finish 28 = .ok (.iload_n 2, 1) := by decide +kernel
theorem dX13_finish_29 : decode cX13_finish 29 = .ok (.iconst 1, 1) := by decide +kernel
theorem dX13_finish_30 : decode cX13_finish 30 = .ok (.if_icmp .ne 7, 3) := by decide +kernel
theorem dX13_finish_33 : decode cX13_finish 33 = .ok (.iconst 0, 1) := by decide +kernel
theorem dX13_finish_34 : decode cX13_finish 34 = .ok (.goto 4, 3) := by decide +kernel
theorem dX13_finish_37 : decode cX13_finish 37 = .ok (.iconst 1, 1) := by decide +kernel
theorem dX13_finish_38 : decode cX13_finish 38 = .ok (.invokevirtual 322, 3) := by decide +kernel
theorem dX13_finish_41 : decode cX13_finish 41 = .ok (.return_, 1) := by decide +kernel
theorem BX13_finish_0 {d bc bs : Nat} {h : aH} {n : Nat} {Q : aQ} {ar0 : Nat} {x1 x2 : Int} {f1 : List aV} (h2 : h ar0 = cO 13 f1) (k : Rn d 0 0 mX13_put 0 [some (vR (some ar0)), some (vI x1), some (vI 4), some (vI x2)] [] h n (fun v h1 n1 => Rn (d + 1) bc bs mX13_finish 7 [some (vR (some ar0)), some (vI x1), some (vI x2)] (v.toList ++ []) h1 n1 Q)) : Rn (d + 1) (bc) (bs) mX13_finish 0 [some (vR (some ar0)), some (vI x1), some (vI x2)] [] h n Q := by
  refine Rn_aload_n dX13_finish_0 rfl rfl rfl ?_
  refine Rn_iload_n dX13_finish_1 rfl rfl ?_
  refine Rn_iconst dX13_finish_2 rfl ?_
  refine Rn_iload_n dX13_finish_3 rfl rfl ?_
  exact Rn_callV (ci := 13) (avs := [vI x1, vI 4, vI x2]) (st := []) (bc1 := 0) (bs1 := 0) (bc2 := bc) (bs2 := bs) fx_X13_put dX13_finish_4 wd_1658 wd_1660 wd_77 rfl h2 rfl (Nat.le_of_ble_eq_true rfl) (Nat.le_of_ble_eq_true rfl) (by omega) (by omega) (ls1 := [some (vR (some ar0)), some (vI x1), some (vI 4), some (vI x2)]) rfl k
theorem BX13_finish_7 {d bc bs : Nat} {h : aH} {n : Nat} {Q : aQ} {ar0 : Nat} {x1 x2 v3 : Int} {f1 : List aV} (h2 : h ar0 = cO 13 f1) (g4 : f1[24]? = some (vI v3)) (kt : x2 ≠ 1 → Rn d bc bs mX13_finish 21 [some (vR (some ar0)), some (vI x1), some (vI x2)] [vI v3, vR (some ar0)] h n Q) (kf : x2 = 1 → Rn d bc bs mX13_finish 17 [some (vR (some ar0)), some (vI x1), some (vI x2)] [vI v3, vR (some ar0)] h n Q) : Rn d (bc) (bs) mX13_finish 7 [some (vR (some ar0)), some (vI x1), some (vI x2)] [] h n Q := by
  refine Rn_aload_n dX13_finish_7 rfl rfl rfl ?_
  refine Rn_dup dX13_finish_8 rfl ?_
  refine Rn_getfield (ci := 13) (k := 24) dX13_finish_9 rfl in_13 (Nat.le_of_ble_eq_true rfl) wd_1376 rfl h2 g4 ?_
  refine Rn_iload_n dX13_finish_12 rfl rfl ?_
  refine Rn_iconst dX13_finish_13 rfl ?_
  refine Rn_icmpne (tgt := 21) dX13_finish_14 rfl ?_ ?_
  · exact kt
  · exact kf
theorem BX13_finish_17 {d bc bs : Nat} {h : aH} {n : Nat} {Q : aQ} {r0 : Option Nat} {x1 x2 s1 : Int} {aq0 : Nat} {f2 : List aV} (b1 : -2147483648 ≤ s1 + 1 ∧ s1 + 1 < 2147483648) (h3 : h aq0 = cO 13 f2) (m4 : 24 < f2.length) (k : Rn d bc bs mX13_finish 26 [some (vR r0), some (vI x1), some (vI x2)] [] (up h aq0 (cO 13 (f2.set 24 (vI (s1 + 1))))) n Q) : Rn d (bc) (bs) mX13_finish 17 [some (vR r0), some (vI x1), some (vI x2)] [vI s1, vR (some aq0)] h n Q := by
  refine Rn_iconst dX13_finish_17 rfl ?_
  refine Rn_goto (tgt := 22) dX13_finish_18 rfl ?_
  refine Rn_iadd dX13_finish_22 ?_
  rw [w32_id b1.1 b1.2]
  refine Rn_putfield (ci := 13) (k := 24) dX13_finish_23 rfl in_13 tyX13_ok nmX13 (Nat.le_of_ble_eq_true rfl) wd_1376 rfl (Or.inl rfl) trivial m4 h3 ?_
  exact k
theorem BX13_finish_21 {d bc bs : Nat} {h : aH} {n : Nat} {Q : aQ} {r0 : Option Nat} {x1 x2 s1 : Int} {aq0 : Nat} {f2 : List aV} (b1 : -2147483648 ≤ s1 + 0 ∧ s1 + 0 < 2147483648) (h3 : h aq0 = cO 13 f2) (m4 : 24 < f2.length) (k : Rn d bc bs mX13_finish 26 [some (vR r0), some (vI x1), some (vI x2)] [] (up h aq0 (cO 13 (f2.set 24 (vI (s1 + 0))))) n Q) : Rn d (bc) (bs) mX13_finish 21 [some (vR r0), some (vI x1), some (vI x2)] [vI s1, vR (some aq0)] h n Q := by
  refine Rn_iconst dX13_finish_21 rfl ?_
  refine Rn_iadd dX13_finish_22 ?_
  rw [w32_id b1.1 b1.2]
  refine Rn_putfield (ci := 13) (k := 24) dX13_finish_23 rfl in_13 tyX13_ok nmX13 (Nat.le_of_ble_eq_true rfl) wd_1376 rfl (Or.inl rfl) trivial m4 h3 ?_
  exact k
theorem BX13_finish_26 {d bc bs : Nat} {h : aH} {n : Nat} {Q : aQ} {r0 : Option Nat} {x1 x2 : Int} (kt : x2 ≠ 1 → Rn d bc bs mX13_finish 37 [some (vR r0), some (vI x1), some (vI x2)] [vI x1, vR r0] h n Q) (kf : x2 = 1 → Rn d bc bs mX13_finish 33 [some (vR r0), some (vI x1), some (vI x2)] [vI x1, vR r0] h n Q) : Rn d (bc) (bs) mX13_finish 26 [some (vR r0), some (vI x1), some (vI x2)] [] h n Q := by
  refine Rn_aload_n dX13_finish_26 rfl rfl rfl ?_
  refine Rn_iload_n dX13_finish_27 rfl rfl ?_
  refine Rn_iload_n dX13_finish_28 rfl rfl ?_
  refine Rn_iconst dX13_finish_29 rfl ?_
  refine Rn_icmpne (tgt := 37) dX13_finish_30 rfl ?_ ?_
  · exact kt
  · exact kf
theorem BX13_finish_33 {d bc bs : Nat} {h : aH} {n : Nat} {Q : aQ} {r0 : Option Nat} {x1 x2 s1 : Int} {aq0 : Nat} {f1 : List aV} (h2 : h aq0 = cO 13 f1) (k : Rn d 0 0 mX13_write 0 [some (vR (some aq0)), some (vI s1), some (vI 0), none] [] h n (fun v h1 n1 => Rn (d + 1) bc bs mX13_finish 41 [some (vR r0), some (vI x1), some (vI x2)] (v.toList ++ []) h1 n1 Q)) : Rn (d + 1) (bc) (bs) mX13_finish 33 [some (vR r0), some (vI x1), some (vI x2)] [vI s1, vR (some aq0)] h n Q := by
  refine Rn_iconst dX13_finish_33 rfl ?_
  refine Rn_goto (tgt := 38) dX13_finish_34 rfl ?_
  exact Rn_callV (ci := 13) (avs := [vI s1, vI 0]) (st := []) (bc1 := 0) (bs1 := 0) (bc2 := bc) (bs2 := bs) fx_X13_write dX13_finish_38 wd_1690 wd_1692 wd_84 rfl h2 rfl (Nat.le_of_ble_eq_true rfl) (Nat.le_of_ble_eq_true rfl) (by omega) (by omega) (ls1 := [some (vR (some aq0)), some (vI s1), some (vI 0), none]) rfl k
theorem BX13_finish_37 {d bc bs : Nat} {h : aH} {n : Nat} {Q : aQ} {r0 : Option Nat} {x1 x2 s1 : Int} {aq0 : Nat} {f1 : List aV} (h2 : h aq0 = cO 13 f1) (k : Rn d 0 0 mX13_write 0 [some (vR (some aq0)), some (vI s1), some (vI 1), none] [] h n (fun v h1 n1 => Rn (d + 1) bc bs mX13_finish 41 [some (vR r0), some (vI x1), some (vI x2)] (v.toList ++ []) h1 n1 Q)) : Rn (d + 1) (bc) (bs) mX13_finish 37 [some (vR r0), some (vI x1), some (vI x2)] [vI s1, vR (some aq0)] h n Q := by
  refine Rn_iconst dX13_finish_37 rfl ?_
  exact Rn_callV (ci := 13) (avs := [vI s1, vI 1]) (st := []) (bc1 := 0) (bs1 := 0) (bc2 := bc) (bs2 := bs) fx_X13_write dX13_finish_38 wd_1690 wd_1692 wd_84 rfl h2 rfl (Nat.le_of_ble_eq_true rfl) (Nat.le_of_ble_eq_true rfl) (by omega) (by omega) (ls1 := [some (vR (some aq0)), some (vI s1), some (vI 1), none]) rfl k
theorem BX13_finish_41 {d bc bs : Nat} {h : aH} {n : Nat} {Q : aQ} {r0 : Option Nat} {x1 x2 : Int} (k : Q none h n) : Rn d (bc) (bs) mX13_finish 41 [some (vR r0), some (vI x1), some (vI x2)] [] h n Q := by
  exact Rn_return rfl dX13_finish_41 k
theorem dX13_floatOn_0 : decode cX13_floatOn 0 = .ok (.aload_n 0, 1) := by decide +kernel
theorem dX13_floatOn_1 : decode cX13_floatOn 1 = .ok (.iload_n 1, 1) := by decide +kernel
theorem dX13_floatOn_2 : decode cX13_floatOn 2 = .ok (.iconst 2, 1) := by decide +kernel
theorem dX13_floatOn_3 : decode cX13_floatOn 3 = .ok (.aload_n 0, 1) := by decide +kernel
theorem dX13_floatOn_4 : decode cX13_floatOn 4 = .ok (.aload_n 0, 1) := by decide +kernel
theorem dX13_floatOn_5 : decode cX13_floatOn 5 = .ok (.getfield 7, 3) := by decide +kernel
theorem dX13_floatOn_8 : decode cX13_floatOn 8 = .ok (.bipush 7, 2) := by decide +kernel
theorem dX13_floatOn_10 : decode cX13_floatOn 10 = .ok (.iaload, 1) := by decide +kernel
theorem dX13_floatOn_11 : decode cX13_floatOn 11 = .ok (.aload_n 0, 1) := by decide +kernel
theorem dX13_floatOn_12 : decode cX13_floatOn 12 = .ok (.iload_n 1, 1) := by decide +kernel
theorem dX13_floatOn_13 : decode cX13_floatOn 13 = .ok (.iconst 2, 1) := by decide +kernel
theorem dX13_floatOn_14 : decode cX13_floatOn 14 = .ok (.invokevirtual 80, 3) := by decide +kernel
theorem dX13_floatOn_17 : decode cX13_floatOn 17 = .ok (.invokevirtual 325, 3) := by decide +kernel
theorem dX13_floatOn_20 : decode cX13_floatOn 20 = .ok (.invokevirtual 315, 3) := by decide +kernel
theorem dX13_floatOn_23 : decode cX13_floatOn 23 = .ok (.aload_n 0, 1) := by decide +kernel
theorem dX13_floatOn_24 : decode cX13_floatOn 24 = .ok (.iload_n 1, 1) := by decide +kernel
theorem dX13_floatOn_25 : decode cX13_floatOn 25 = .ok (.iconst 3, 1) := by decide +kernel
theorem dX13_floatOn_26 : decode cX13_floatOn 26 = .ok (.aload_n 0, 1) := by decide +kernel
theorem dX13_floatOn_27 : decode cX13_floatOn 27 = .ok (.iload_n 1, 1) := by decide +kernel
theorem dX13_floatOn_28 : decode cX13_floatOn 28 = .ok (.iconst 3, 1) := by decide +kernel
theorem dX13_floatOn_29 : decode cX13_floatOn 29 = .ok (.invokevirtual 80, 3) := by decide +kernel
theorem dX13_floatOn_32 : decode cX13_floatOn 32 = .ok (.aload_n 0, 1) := by decide +kernel
theorem dX13_floatOn_33 : decode cX13_floatOn 33 = .ok (.iload_n 1, 1) := by decide +kernel
theorem dX13_floatOn_34 : decode cX13_floatOn 34 = .ok (.invokevirtual 328, 3) := by decide +kernel
theorem dX13_floatOn_37 : decode cX13_floatOn 37 = .ok (.isub, 1) := by decide +kernel
theorem dX13_floatOn_38 : decode cX13_floatOn 38 = .ok (.i2l, 1) := by decide +kernel
theorem dX13_floatOn_39 : decode cX13_floatOn 39 = .ok (.iconst 0, 1) := by decide +kernel
theorem dX13_floatOn_40 : decode cX13_floatOn 40 = .ok (.bipush 99, 2) := by decide +kernel
theorem dX13_floatOn_42 : decode cX13_floatOn 42 = .ok (.invokestatic 292, 3) := by decide +kernel
theorem dX13_floatOn_45 : decode cX13_floatOn 45 = .ok (.invokevirtual 315, 3) := by decide +kernel
theorem dX13_floatOn_48 : decode cX13_floatOn 48 = .ok (.aload_n 0, 1) := by decide +kernel
theorem dX13_floatOn_49 : decode cX13_floatOn 49 = .ok (.iload_n 1, 1) := by decide +kernel
theorem dX13_floatOn_50 : decode cX13_floatOn 50 = .ok (.iconst 3, 1) := by decide +kernel
theorem dX13_floatOn_51 : decode cX13_floatOn 51 = .ok (.invokevirtual 80, 3) := by decide +kernel
theorem dX13_floatOn_54 : decode cX13_floatOn 54 = .ok (.ifCond .ne 10, 3) := by decide +kernel
theorem dX13_floatOn_57 : decode cX13_floatOn 57 = .ok (.aload_n 0, 1) := by decide +kernel
theorem dX13_floatOn_58 : decode cX13_floatOn 58 = .ok (.iload_n 1, 1) := by decide +kernel
theorem dX13_floatOn_59 : decode cX13_floatOn 59 = .ok (.iconst 2, 1) := by decide +kernel
theorem dX13_floatOn_60 : decode cX13_floatOn 60 = .ok (.invokevirtual 331, 3) := by decide +kernel
theorem dX13_floatOn_63 : decode cX13_floatOn 63 = .ok (.return_, 1) := by decide +kernel
theorem dX13_floatOn_64 : decode cX13_floatOn 64 = .ok (.aload_n 0, 1) := by decide +kernel
theorem dX13_floatOn_65 : decode cX13_floatOn 65 = .ok (.iload_n 1, 1) := by decide +kernel
theorem dX13_floatOn_66 : decode cX13_floatOn 66 = .ok (.iconst 2, 1) := by decide +kernel
theorem dX13_floatOn_67 : decode cX13_floatOn 67 = .ok (.invokevirtual 80, 3) := by decide +kernel
theorem dX13_floatOn_70 : decode cX13_floatOn 70 = .ok (.aload_n 0, 1) := by decide +kernel
theorem dX13_floatOn_71 : decode cX13_floatOn 71 = .ok (.aload_n 0, 1) := by decide +kernel
theorem dX13_floatOn_72 : decode cX13_floatOn 72 = .ok (.iload_n 1, 1) := by decide +kernel
theorem dX13_floatOn_73 : decode cX13_floatOn 73 = .ok (.iconst 1, 1) := by decide +kernel
theorem dX13_floatOn_74 : decode cX13_floatOn 74 = .ok (.invokevirtual 80, 3) := by decide +kernel
theorem dX13_floatOn_77 : decode cX13_floatOn 77 = .ok (.iconst 0, 1) := by decide +kernel
theorem dX13_floatOn_78 : decode cX13_floatOn 78 = .ok (.invokevirtual 267, 3) := by decide +kernel
theorem dX13_floatOn_81 : decode cX13_floatOn 81 = .ok (.if_icmp .eq 4, 3) := by decide +kernel
theorem dX13_floatOn_84 : decode cX13_floatOn 84 = .ok (.return_, 1) := by decide +kernel
theorem dX13_floatOn_85 : decode cX13_floatOn 85 = .ok (.aload_n 0, 1) := by decide +kernel
theorem dX13_floatOn_86 : decode cX13_floatOn 86 = .ok (.getfield 7, 3) := by decide +kernel
theorem dX13_floatOn_89 : decode cX13_floatOn 89 = .ok (.bipush 8, 2) := by decide +kernel
theorem dX13_floatOn_91 : decode cX13_floatOn 91 = .ok (.iaload, 1) := by decide +kernel
theorem dX13_floatOn_92 : decode cX13_floatOn 92 = .ok (.bipush 10, 2) := by decide +kernel
theorem dX13_floatOn_94 : decode cX13_floatOn 94 = .ok (.irem, 1) := by decide +kernel
theorem dX13_floatOn_95 : decode cX13_floatOn 95 = .ok (.aload_n 0, 1) := by decide +kernel
theorem dX13_floatOn_96 : decode cX13_floatOn 96 = .ok (.aload_n 0, 1) := by decide +kernel
theorem dX13_floatOn_97 : decode cX13_floatOn 97 = .ok (.getfield 7, 3) := by decide +kernel
theorem dX13_floatOn_100 : decode cX13_floatOn 100 = .ok (.iconst 2, 1) := by decide +kernel
theorem dX13_floatOn_101 : decode cX13_floatOn 101 = .ok (.iaload, 1) := by decide +kernel
theorem dX13_floatOn_102 : decode cX13_floatOn 102 = .ok (.iload_n 1, 1) := by decide +kernel
theorem dX13_floatOn_103 : decode cX13_floatOn 103 = .ok (.invokevirtual 334, 3) := by decide +kernel
theorem dX13_floatOn_106 : decode cX13_floatOn 106 = .ok (.if_icmp .ge 7, 3) := by decide +kernel
theorem dX13_floatOn_109 : decode cX13_floatOn 109 = .ok (.iconst 1, 1) := by decide +kernel
theorem dX13_floatOn_110 : decode cX13_floatOn 110 = .ok (.goto 4, 3) := by decide +kernel
theorem dX13_floatOn_113 : decode cX13_floatOn 113 = .ok (.iconst 0, 1) := by decide +kernel
theorem dX13_floatOn_114 : decode cX13_floatOn 114 = .ok (.istore_n 2, 1) := by decide +kernel
theorem dX13_floatOn_115 : decode cX13_floatOn 115 = .ok (.aload_n 0, 1) := by decide +kernel
theorem dX13_floatOn_116 : decode cX13_floatOn 116 = .ok (.invokevirtual 337, 3) := by decide +kernel
theorem dX13_floatOn_119 : decode cX13_floatOn 119 = .ok (.iload_n 2, 1) := by decide +kernel
theorem dX13_floatOn_120 : decode cX13_floatOn 120 = .ok (.ifCond .eq 9, 3) := by decide +kernel
theorem dX13_floatOn_123 : decode cX13_floatOn 123 = .ok (.aload_n 0, 1) := by decide +kernel
theorem dX13_floatOn_124 : decode cX13_floatOn 124 = .ok (.iload_n 1, 1) := by decide +kernel
theorem dX13_floatOn_125 : decode cX13_floatOn 125 = .ok (.iconst 1, 1) := by decide +kernel
theorem dX13_floatOn_126 : decode cX13_floatOn 126 = .ok (.invokevirtual 331, 3) := by decide +kernel
theorem dX13_floatOn_129 : decode cX13_floatOn 129 = .ok (.return_, 1) := by decide +kernel
theorem BX13_floatOn_0 {d bc bs : Nat} {h : aH} {n : Nat} {Q : aQ} {ar0 at3 : Nat} {x1 v7 : Int} {l2 : Option aV} {f1 : List aV} {w5 : List Int} (h2 : h ar0 = cO 13 f1) (g4 : f1[0]? = some (vR (some at3))) (h6 : h at3 = cI w5) (g8 : w5[(7 : Int).toNat]? = some v7) (k : Rn d 0 0 mX13_get 0 [some (vR (some ar0)), some (vI x1), some (vI 2)] [] h n (fun v h1 n1 => Rn (d + 1) bc bs mX13_floatOn 17 [some (vR (some ar0)), some (vI x1), l2] (v.toList ++ [vI v7, vR (some ar0), vI 2, vI x1, vR (some ar0)]) h1 n1 Q)) : Rn (d + 1) (bc) (bs) mX13_floatOn 0 [some (vR (some ar0)), some (vI x1), l2] [] h n Q := by
  refine Rn_aload_n dX13_floatOn_0 rfl rfl rfl ?_
  refine Rn_iload_n dX13_floatOn_1 rfl rfl ?_
  refine Rn_iconst dX13_floatOn_2 rfl ?_
  refine Rn_aload_n dX13_floatOn_3 rfl rfl rfl ?_
  refine Rn_aload_n dX13_floatOn_4 rfl rfl rfl ?_
  refine Rn_getfield (ci := 13) (k := 0) dX13_floatOn_5 rfl in_13 (Nat.le_of_ble_eq_true rfl) wd_1352 rfl h2 g4 ?_
  refine Rn_bipush dX13_floatOn_8 rfl ?_
  refine Rn_iaload dX13_floatOn_10 h6 (by decide) g8 ?_
  refine Rn_aload_n dX13_floatOn_11 rfl rfl rfl ?_
  refine Rn_iload_n dX13_floatOn_12 rfl rfl ?_
  refine Rn_iconst dX13_floatOn_13 rfl ?_
  exact Rn_callV (ci := 13) (avs := [vI x1, vI 2]) (st := [vI v7, vR (some ar0), vI 2, vI x1, vR (some ar0)]) (bc1 := 0) (bs1 := 0) (bc2 := bc) (bs2 := bs) fx_X13_get dX13_floatOn_14 wd_1682 wd_1684 wd_82 rfl h2 rfl (Nat.le_of_ble_eq_true rfl) (Nat.le_of_ble_eq_true rfl) (by omega) (by omega) (ls1 := [some (vR (some ar0)), some (vI x1), some (vI 2)]) rfl k
theorem BX13_floatOn_17 {d bc bs : Nat} {h : aH} {n : Nat} {Q : aQ} {r0 q0 : Option Nat} {x1 s1 s2 s4 s5 : Int} {l2 : Option aV} {aq3 : Nat} {f1 : List aV} (h2 : h aq3 = cO 13 f1) (k : Rn d 0 0 mX13_flowsTo 0 [some (vR (some aq3)), some (vI s4), some (vI s5)] [] h n (fun v h1 n1 => Rn (d + 1) bc bs mX13_floatOn 20 [some (vR r0), some (vI x1), l2] (v.toList ++ [vI s2, vI s1, vR q0]) h1 n1 Q)) : Rn (d + 1) (bc) (bs) mX13_floatOn 17 [some (vR r0), some (vI x1), l2] [vI s5, vI s4, vR (some aq3), vI s2, vI s1, vR q0] h n Q := by
  exact Rn_callV (ci := 13) (avs := [vI s4, vI s5]) (st := [vI s2, vI s1, vR q0]) (bc1 := 0) (bs1 := 0) (bc2 := bc) (bs2 := bs) fx_X13_flowsTo dX13_floatOn_17 wd_1722 wd_1724 wd_90 rfl h2 rfl (Nat.le_of_ble_eq_true rfl) (Nat.le_of_ble_eq_true rfl) (by omega) (by omega) (ls1 := [some (vR (some aq3)), some (vI s4), some (vI s5)]) rfl k
theorem BX13_floatOn_20 {d bc bs : Nat} {h : aH} {n : Nat} {Q : aQ} {r0 : Option Nat} {x1 s1 s2 s3 : Int} {l2 : Option aV} {aq0 : Nat} {f1 : List aV} (h2 : h aq0 = cO 13 f1) (k : Rn d 0 0 mX13_put 0 [some (vR (some aq0)), some (vI s1), some (vI s2), some (vI s3)] [] h n (fun v h1 n1 => Rn (d + 1) bc bs mX13_floatOn 23 [some (vR r0), some (vI x1), l2] (v.toList ++ []) h1 n1 Q)) : Rn (d + 1) (bc) (bs) mX13_floatOn 20 [some (vR r0), some (vI x1), l2] [vI s3, vI s2, vI s1, vR (some aq0)] h n Q := by
  exact Rn_callV (ci := 13) (avs := [vI s1, vI s2, vI s3]) (st := []) (bc1 := 0) (bs1 := 0) (bc2 := bc) (bs2 := bs) fx_X13_put dX13_floatOn_20 wd_1658 wd_1660 wd_77 rfl h2 rfl (Nat.le_of_ble_eq_true rfl) (Nat.le_of_ble_eq_true rfl) (by omega) (by omega) (ls1 := [some (vR (some aq0)), some (vI s1), some (vI s2), some (vI s3)]) rfl k
theorem BX13_floatOn_23 {d bc bs : Nat} {h : aH} {n : Nat} {Q : aQ} {ar0 : Nat} {x1 : Int} {l2 : Option aV} {f1 : List aV} (h2 : h ar0 = cO 13 f1) (k : Rn d 0 0 mX13_get 0 [some (vR (some ar0)), some (vI x1), some (vI 3)] [] h n (fun v h1 n1 => Rn (d + 1) bc bs mX13_floatOn 32 [some (vR (some ar0)), some (vI x1), l2] (v.toList ++ [vI 3, vI x1, vR (some ar0)]) h1 n1 Q)) : Rn (d + 1) (bc) (bs) mX13_floatOn 23 [some (vR (some ar0)), some (vI x1), l2] [] h n Q := by
  refine Rn_aload_n dX13_floatOn_23 rfl rfl rfl ?_
  refine Rn_iload_n dX13_floatOn_24 rfl rfl ?_
  refine Rn_iconst dX13_floatOn_25 rfl ?_
  refine Rn_aload_n dX13_floatOn_26 rfl rfl rfl ?_
  refine Rn_iload_n dX13_floatOn_27 rfl rfl ?_
  refine Rn_iconst dX13_floatOn_28 rfl ?_
  exact Rn_callV (ci := 13) (avs := [vI x1, vI 3]) (st := [vI 3, vI x1, vR (some ar0)]) (bc1 := 0) (bs1 := 0) (bc2 := bc) (bs2 := bs) fx_X13_get dX13_floatOn_29 wd_1682 wd_1684 wd_82 rfl h2 rfl (Nat.le_of_ble_eq_true rfl) (Nat.le_of_ble_eq_true rfl) (by omega) (by omega) (ls1 := [some (vR (some ar0)), some (vI x1), some (vI 3)]) rfl k
theorem BX13_floatOn_32 {d bc bs : Nat} {h : aH} {n : Nat} {Q : aQ} {ar0 : Nat} {x1 s1 s2 s3 : Int} {l2 : Option aV} {q0 : Option Nat} {f1 : List aV} (h2 : h ar0 = cO 13 f1) (k : Rn d 0 0 mX13_wearsOf 0 [some (vR (some ar0)), some (vI x1)] [] h n (fun v h1 n1 => Rn (d + 1) bc bs mX13_floatOn 37 [some (vR (some ar0)), some (vI x1), l2] (v.toList ++ [vI s3, vI s2, vI s1, vR q0]) h1 n1 Q)) : Rn (d + 1) (bc) (bs) mX13_floatOn 32 [some (vR (some ar0)), some (vI x1), l2] [vI s3, vI s2, vI s1, vR q0] h n Q := by
  refine Rn_aload_n dX13_floatOn_32 rfl rfl rfl ?_
  refine Rn_iload_n dX13_floatOn_33 rfl rfl ?_
  exact Rn_callV (ci := 13) (avs := [vI x1]) (st := [vI s3, vI s2, vI s1, vR q0]) (bc1 := 0) (bs1 := 0) (bc2 := bc) (bs2 := bs) fx_X13_wearsOf dX13_floatOn_34 wd_1726 wd_1728 wd_91 rfl h2 rfl (Nat.le_of_ble_eq_true rfl) (Nat.le_of_ble_eq_true rfl) (by omega) (by omega) (ls1 := [some (vR (some ar0)), some (vI x1)]) rfl k
theorem BX13_floatOn_37 {d bc bs : Nat} {h : aH} {n : Nat} {Q : aQ} {r0 q0 : Option Nat} {x1 s1 s2 s3 s4 : Int} {l2 : Option aV} (b1 : -2147483648 ≤ s3 - s4 ∧ s3 - s4 < 2147483648) (k : Rn d 0 0 mX13_cut 0 [some (vL (s3 - s4)), none, some (vI 0), some (vI 99)] [] h n (fun v h1 n1 => Rn (d + 1) bc bs mX13_floatOn 45 [some (vR r0), some (vI x1), l2] (v.toList ++ [vI s2, vI s1, vR q0]) h1 n1 Q)) : Rn (d + 1) (bc) (bs) mX13_floatOn 37 [some (vR r0), some (vI x1), l2] [vI s4, vI s3, vI s2, vI s1, vR q0] h n Q := by
  refine Rn_isub dX13_floatOn_37 ?_
  rw [w32_id b1.1 b1.2]
  refine Rn_i2l dX13_floatOn_38 ?_
  refine Rn_iconst dX13_floatOn_39 rfl ?_
  refine Rn_bipush dX13_floatOn_40 rfl ?_
  exact Rn_callS (avs := [vL (s3 - s4), vI 0, vI 99]) (st := [vI s2, vI s1, vR q0]) (bc1 := 0) (bs1 := 0) (bc2 := bc) (bs2 := bs) fx_X13_cut dX13_floatOn_42 (Or.inl wd_1767) wd_1768 rfl (Nat.le_of_ble_eq_true rfl) (Nat.le_of_ble_eq_true rfl) (by omega) (by omega) (ls1 := [some (vL (s3 - s4)), none, some (vI 0), some (vI 99)]) rfl k
theorem BX13_floatOn_45 {d bc bs : Nat} {h : aH} {n : Nat} {Q : aQ} {r0 : Option Nat} {x1 s1 s2 s3 : Int} {l2 : Option aV} {aq0 : Nat} {f1 : List aV} (h2 : h aq0 = cO 13 f1) (k : Rn d 0 0 mX13_put 0 [some (vR (some aq0)), some (vI s1), some (vI s2), some (vI s3)] [] h n (fun v h1 n1 => Rn (d + 1) bc bs mX13_floatOn 48 [some (vR r0), some (vI x1), l2] (v.toList ++ []) h1 n1 Q)) : Rn (d + 1) (bc) (bs) mX13_floatOn 45 [some (vR r0), some (vI x1), l2] [vI s3, vI s2, vI s1, vR (some aq0)] h n Q := by
  exact Rn_callV (ci := 13) (avs := [vI s1, vI s2, vI s3]) (st := []) (bc1 := 0) (bs1 := 0) (bc2 := bc) (bs2 := bs) fx_X13_put dX13_floatOn_45 wd_1658 wd_1660 wd_77 rfl h2 rfl (Nat.le_of_ble_eq_true rfl) (Nat.le_of_ble_eq_true rfl) (by omega) (by omega) (ls1 := [some (vR (some aq0)), some (vI s1), some (vI s2), some (vI s3)]) rfl k
theorem BX13_floatOn_48 {d bc bs : Nat} {h : aH} {n : Nat} {Q : aQ} {ar0 : Nat} {x1 : Int} {l2 : Option aV} {f1 : List aV} (h2 : h ar0 = cO 13 f1) (k : Rn d 0 0 mX13_get 0 [some (vR (some ar0)), some (vI x1), some (vI 3)] [] h n (fun v h1 n1 => Rn (d + 1) bc bs mX13_floatOn 54 [some (vR (some ar0)), some (vI x1), l2] (v.toList ++ []) h1 n1 Q)) : Rn (d + 1) (bc) (bs) mX13_floatOn 48 [some (vR (some ar0)), some (vI x1), l2] [] h n Q := by
  refine Rn_aload_n dX13_floatOn_48 rfl rfl rfl ?_
  refine Rn_iload_n dX13_floatOn_49 rfl rfl ?_
  refine Rn_iconst dX13_floatOn_50 rfl ?_
  exact Rn_callV (ci := 13) (avs := [vI x1, vI 3]) (st := []) (bc1 := 0) (bs1 := 0) (bc2 := bc) (bs2 := bs) fx_X13_get dX13_floatOn_51 wd_1682 wd_1684 wd_82 rfl h2 rfl (Nat.le_of_ble_eq_true rfl) (Nat.le_of_ble_eq_true rfl) (by omega) (by omega) (ls1 := [some (vR (some ar0)), some (vI x1), some (vI 3)]) rfl k
theorem BX13_floatOn_54 {d bc bs : Nat} {h : aH} {n : Nat} {Q : aQ} {r0 : Option Nat} {x1 s0 : Int} {l2 : Option aV} (kt : s0 ≠ 0 → Rn d bc bs mX13_floatOn 64 [some (vR r0), some (vI x1), l2] [] h n Q) (kf : s0 = 0 → Rn d bc bs mX13_floatOn 57 [some (vR r0), some (vI x1), l2] [] h n Q) : Rn d (bc) (bs) mX13_floatOn 54 [some (vR r0), some (vI x1), l2] [vI s0] h n Q := by
  refine Rn_ifne (tgt := 64) dX13_floatOn_54 rfl ?_ ?_
  · exact kt
  · exact kf
theorem BX13_floatOn_57 {d bc bs : Nat} {h : aH} {n : Nat} {Q : aQ} {ar0 : Nat} {x1 : Int} {l2 : Option aV} {f1 : List aV} (h2 : h ar0 = cO 13 f1) (k : Rn d 0 0 mX13_finish 0 [some (vR (some ar0)), some (vI x1), some (vI 2)] [] h n (fun v h1 n1 => Rn (d + 1) bc bs mX13_floatOn 63 [some (vR (some ar0)), some (vI x1), l2] (v.toList ++ []) h1 n1 Q)) : Rn (d + 1) (bc) (bs) mX13_floatOn 57 [some (vR (some ar0)), some (vI x1), l2] [] h n Q := by
  refine Rn_aload_n dX13_floatOn_57 rfl rfl rfl ?_
  refine Rn_iload_n dX13_floatOn_58 rfl rfl ?_
  refine Rn_iconst dX13_floatOn_59 rfl ?_
  exact Rn_callV (ci := 13) (avs := [vI x1, vI 2]) (st := []) (bc1 := 0) (bs1 := 0) (bc2 := bc) (bs2 := bs) fx_X13_finish dX13_floatOn_60 wd_1770 wd_1772 wd_97 rfl h2 rfl (Nat.le_of_ble_eq_true rfl) (Nat.le_of_ble_eq_true rfl) (by omega) (by omega) (ls1 := [some (vR (some ar0)), some (vI x1), some (vI 2)]) rfl k
theorem BX13_floatOn_63 {d bc bs : Nat} {h : aH} {n : Nat} {Q : aQ} {r0 : Option Nat} {x1 : Int} {l2 : Option aV} (k : Q none h n) : Rn d (bc) (bs) mX13_floatOn 63 [some (vR r0), some (vI x1), l2] [] h n Q := by
  exact Rn_return rfl dX13_floatOn_63 k
theorem BX13_floatOn_64 {d bc bs : Nat} {h : aH} {n : Nat} {Q : aQ} {ar0 : Nat} {x1 : Int} {l2 : Option aV} {f1 : List aV} (h2 : h ar0 = cO 13 f1) (k : Rn d 0 0 mX13_get 0 [some (vR (some ar0)), some (vI x1), some (vI 2)] [] h n (fun v h1 n1 => Rn (d + 1) bc bs mX13_floatOn 70 [some (vR (some ar0)), some (vI x1), l2] (v.toList ++ []) h1 n1 Q)) : Rn (d + 1) (bc) (bs) mX13_floatOn 64 [some (vR (some ar0)), some (vI x1), l2] [] h n Q := by
  refine Rn_aload_n dX13_floatOn_64 rfl rfl rfl ?_
  refine Rn_iload_n dX13_floatOn_65 rfl rfl ?_
  refine Rn_iconst dX13_floatOn_66 rfl ?_
  exact Rn_callV (ci := 13) (avs := [vI x1, vI 2]) (st := []) (bc1 := 0) (bs1 := 0) (bc2 := bc) (bs2 := bs) fx_X13_get dX13_floatOn_67 wd_1682 wd_1684 wd_82 rfl h2 rfl (Nat.le_of_ble_eq_true rfl) (Nat.le_of_ble_eq_true rfl) (by omega) (by omega) (ls1 := [some (vR (some ar0)), some (vI x1), some (vI 2)]) rfl k
theorem BX13_floatOn_70 {d bc bs : Nat} {h : aH} {n : Nat} {Q : aQ} {ar0 : Nat} {x1 s0 : Int} {l2 : Option aV} {f1 : List aV} (h2 : h ar0 = cO 13 f1) (k : Rn d 0 0 mX13_get 0 [some (vR (some ar0)), some (vI x1), some (vI 1)] [] h n (fun v h1 n1 => Rn (d + 1) bc bs mX13_floatOn 77 [some (vR (some ar0)), some (vI x1), l2] (v.toList ++ [vR (some ar0), vI s0]) h1 n1 Q)) : Rn (d + 1) (bc) (bs) mX13_floatOn 70 [some (vR (some ar0)), some (vI x1), l2] [vI s0] h n Q := by
  refine Rn_aload_n dX13_floatOn_70 rfl rfl rfl ?_
  refine Rn_aload_n dX13_floatOn_71 rfl rfl rfl ?_
  refine Rn_iload_n dX13_floatOn_72 rfl rfl ?_
  refine Rn_iconst dX13_floatOn_73 rfl ?_
  exact Rn_callV (ci := 13) (avs := [vI x1, vI 1]) (st := [vR (some ar0), vI s0]) (bc1 := 0) (bs1 := 0) (bc2 := bc) (bs2 := bs) fx_X13_get dX13_floatOn_74 wd_1682 wd_1684 wd_82 rfl h2 rfl (Nat.le_of_ble_eq_true rfl) (Nat.le_of_ble_eq_true rfl) (by omega) (by omega) (ls1 := [some (vR (some ar0)), some (vI x1), some (vI 1)]) rfl k
theorem BX13_floatOn_77 {d bc bs : Nat} {h : aH} {n : Nat} {Q : aQ} {r0 : Option Nat} {x1 s0 s2 : Int} {l2 : Option aV} {aq1 : Nat} {f1 : List aV} (h2 : h aq1 = cO 13 f1) (k : Rn d 0 0 mX13_own 0 [some (vR (some aq1)), some (vI s2), some (vI 0)] [] h n (fun v h1 n1 => Rn (d + 1) bc bs mX13_floatOn 81 [some (vR r0), some (vI x1), l2] (v.toList ++ [vI s0]) h1 n1 Q)) : Rn (d + 1) (bc) (bs) mX13_floatOn 77 [some (vR r0), some (vI x1), l2] [vI s2, vR (some aq1), vI s0] h n Q := by
  refine Rn_iconst dX13_floatOn_77 rfl ?_
  exact Rn_callV (ci := 13) (avs := [vI s2, vI 0]) (st := [vI s0]) (bc1 := 0) (bs1 := 0) (bc2 := bc) (bs2 := bs) fx_X13_own dX13_floatOn_78 wd_1662 wd_1664 wd_78 rfl h2 rfl (Nat.le_of_ble_eq_true rfl) (Nat.le_of_ble_eq_true rfl) (by omega) (by omega) (ls1 := [some (vR (some aq1)), some (vI s2), some (vI 0)]) rfl k
theorem BX13_floatOn_81 {d bc bs : Nat} {h : aH} {n : Nat} {Q : aQ} {r0 : Option Nat} {x1 s0 s1 : Int} {l2 : Option aV} (kt : s0 = s1 → Rn d bc bs mX13_floatOn 85 [some (vR r0), some (vI x1), l2] [] h n Q) (kf : s0 ≠ s1 → Rn d bc bs mX13_floatOn 84 [some (vR r0), some (vI x1), l2] [] h n Q) : Rn d (bc) (bs) mX13_floatOn 81 [some (vR r0), some (vI x1), l2] [vI s1, vI s0] h n Q := by
  refine Rn_icmpeq (tgt := 85) dX13_floatOn_81 rfl ?_ ?_
  · exact kt
  · exact kf
theorem BX13_floatOn_84 {d bc bs : Nat} {h : aH} {n : Nat} {Q : aQ} {r0 : Option Nat} {x1 : Int} {l2 : Option aV} (k : Q none h n) : Rn d (bc) (bs) mX13_floatOn 84 [some (vR r0), some (vI x1), l2] [] h n Q := by
  exact Rn_return rfl dX13_floatOn_84 k
theorem BX13_floatOn_85 {d bc bs : Nat} {h : aH} {n : Nat} {Q : aQ} {ar0 at3 : Nat} {x1 v7 v10 : Int} {l2 : Option aV} {f1 : List aV} {w5 : List Int} (h2 : h ar0 = cO 13 f1) (g4 : f1[0]? = some (vR (some at3))) (h6 : h at3 = cI w5) (g8 : w5[(8 : Int).toNat]? = some v7) (b9 : 0 ≤ v7) (g11 : w5[(2 : Int).toNat]? = some v10) (k : Rn d 0 0 mX13_comesOf 0 [some (vR (some ar0)), some (vI v10), some (vI x1)] [] h n (fun v h1 n1 => Rn (d + 1) bc bs mX13_floatOn 106 [some (vR (some ar0)), some (vI x1), l2] (v.toList ++ [vI (v7 % 10)]) h1 n1 Q)) : Rn (d + 1) (bc) (bs) mX13_floatOn 85 [some (vR (some ar0)), some (vI x1), l2] [] h n Q := by
  refine Rn_aload_n dX13_floatOn_85 rfl rfl rfl ?_
  refine Rn_getfield (ci := 13) (k := 0) dX13_floatOn_86 rfl in_13 (Nat.le_of_ble_eq_true rfl) wd_1352 rfl h2 g4 ?_
  refine Rn_bipush dX13_floatOn_89 rfl ?_
  refine Rn_iaload dX13_floatOn_91 h6 (by decide) g8 ?_
  refine Rn_bipush dX13_floatOn_92 rfl ?_
  refine Rn_irem dX13_floatOn_94 (by decide) ?_
  rw [Int.tmod_eq_emod_of_nonneg b9]
  refine Rn_aload_n dX13_floatOn_95 rfl rfl rfl ?_
  refine Rn_aload_n dX13_floatOn_96 rfl rfl rfl ?_
  refine Rn_getfield (ci := 13) (k := 0) dX13_floatOn_97 rfl in_13 (Nat.le_of_ble_eq_true rfl) wd_1352 rfl h2 g4 ?_
  refine Rn_iconst dX13_floatOn_100 rfl ?_
  refine Rn_iaload dX13_floatOn_101 h6 (by decide) g11 ?_
  refine Rn_iload_n dX13_floatOn_102 rfl rfl ?_
  exact Rn_callV (ci := 13) (avs := [vI v10, vI x1]) (st := [vI (v7 % 10)]) (bc1 := 0) (bs1 := 0) (bc2 := bc) (bs2 := bs) fx_X13_comesOf dX13_floatOn_103 wd_1774 wd_1776 wd_98 rfl h2 rfl (Nat.le_of_ble_eq_true rfl) (Nat.le_of_ble_eq_true rfl) (by omega) (by omega) (ls1 := [some (vR (some ar0)), some (vI v10), some (vI x1)]) rfl k
theorem BX13_floatOn_106 {d bc bs : Nat} {h : aH} {n : Nat} {Q : aQ} {r0 : Option Nat} {x1 s0 s1 : Int} {l2 : Option aV} (kt : s1 ≤ s0 → Rn d bc bs mX13_floatOn 113 [some (vR r0), some (vI x1), l2] [] h n Q) (kf : s0 < s1 → Rn d bc bs mX13_floatOn 109 [some (vR r0), some (vI x1), l2] [] h n Q) : Rn d (bc) (bs) mX13_floatOn 106 [some (vR r0), some (vI x1), l2] [vI s1, vI s0] h n Q := by
  refine Rn_icmpge (tgt := 113) dX13_floatOn_106 rfl ?_ ?_
  · exact kt
  · exact kf
theorem BX13_floatOn_109 {d bc bs : Nat} {h : aH} {n : Nat} {Q : aQ} {ar0 : Nat} {x1 : Int} {l2 : Option aV} {f1 : List aV} (h2 : h ar0 = cO 13 f1) (k : Rn d 0 0 mX13_anew 0 [some (vR (some ar0))] [] h n (fun v h1 n1 => Rn (d + 1) bc bs mX13_floatOn 119 [some (vR (some ar0)), some (vI x1), some (vI 1)] (v.toList ++ []) h1 n1 Q)) : Rn (d + 1) (bc) (bs) mX13_floatOn 109 [some (vR (some ar0)), some (vI x1), l2] [] h n Q := by
  refine Rn_iconst dX13_floatOn_109 rfl ?_
  refine Rn_goto (tgt := 114) dX13_floatOn_110 rfl ?_
  refine Rn_istore_n dX13_floatOn_114 rfl (Nat.le_of_ble_eq_true rfl) rfl rfl ?_
  refine Rn_aload_n dX13_floatOn_115 rfl rfl rfl ?_
  exact Rn_callV (ci := 13) (avs := []) (st := []) (bc1 := 0) (bs1 := 0) (bc2 := bc) (bs2 := bs) fx_X13_anew dX13_floatOn_116 wd_1778 wd_1780 wd_99 rfl h2 rfl (Nat.le_of_ble_eq_true rfl) (Nat.le_of_ble_eq_true rfl) (by omega) (by omega) (ls1 := [some (vR (some ar0))]) rfl k
theorem BX13_floatOn_113 {d bc bs : Nat} {h : aH} {n : Nat} {Q : aQ} {ar0 : Nat} {x1 : Int} {l2 : Option aV} {f1 : List aV} (h2 : h ar0 = cO 13 f1) (k : Rn d 0 0 mX13_anew 0 [some (vR (some ar0))] [] h n (fun v h1 n1 => Rn (d + 1) bc bs mX13_floatOn 119 [some (vR (some ar0)), some (vI x1), some (vI 0)] (v.toList ++ []) h1 n1 Q)) : Rn (d + 1) (bc) (bs) mX13_floatOn 113 [some (vR (some ar0)), some (vI x1), l2] [] h n Q := by
  refine Rn_iconst dX13_floatOn_113 rfl ?_
  refine Rn_istore_n dX13_floatOn_114 rfl (Nat.le_of_ble_eq_true rfl) rfl rfl ?_
  refine Rn_aload_n dX13_floatOn_115 rfl rfl rfl ?_
  exact Rn_callV (ci := 13) (avs := []) (st := []) (bc1 := 0) (bs1 := 0) (bc2 := bc) (bs2 := bs) fx_X13_anew dX13_floatOn_116 wd_1778 wd_1780 wd_99 rfl h2 rfl (Nat.le_of_ble_eq_true rfl) (Nat.le_of_ble_eq_true rfl) (by omega) (by omega) (ls1 := [some (vR (some ar0))]) rfl k
theorem BX13_floatOn_119 {d bc bs : Nat} {h : aH} {n : Nat} {Q : aQ} {r0 : Option Nat} {x1 x2 : Int} (kt : x2 = 0 → Rn d bc bs mX13_floatOn 129 [some (vR r0), some (vI x1), some (vI x2)] [] h n Q) (kf : x2 ≠ 0 → Rn d bc bs mX13_floatOn 123 [some (vR r0), some (vI x1), some (vI x2)] [] h n Q) : Rn d (bc) (bs) mX13_floatOn 119 [some (vR r0), some (vI x1), some (vI x2)] [] h n Q := by
  refine Rn_iload_n dX13_floatOn_119 rfl rfl ?_
  refine Rn_ifeq (tgt := 129) dX13_floatOn_120 rfl ?_ ?_
  · exact kt
  · exact kf
theorem BX13_floatOn_123 {d bc bs : Nat} {h : aH} {n : Nat} {Q : aQ} {ar0 : Nat} {x1 x2 : Int} {f1 : List aV} (h2 : h ar0 = cO 13 f1) (k : Rn d 0 0 mX13_finish 0 [some (vR (some ar0)), some (vI x1), some (vI 1)] [] h n (fun v h1 n1 => Rn (d + 1) bc bs mX13_floatOn 129 [some (vR (some ar0)), some (vI x1), some (vI x2)] (v.toList ++ []) h1 n1 Q)) : Rn (d + 1) (bc) (bs) mX13_floatOn 123 [some (vR (some ar0)), some (vI x1), some (vI x2)] [] h n Q := by
  refine Rn_aload_n dX13_floatOn_123 rfl rfl rfl ?_
  refine Rn_iload_n dX13_floatOn_124 rfl rfl ?_
  refine Rn_iconst dX13_floatOn_125 rfl ?_
  exact Rn_callV (ci := 13) (avs := [vI x1, vI 1]) (st := []) (bc1 := 0) (bs1 := 0) (bc2 := bc) (bs2 := bs) fx_X13_finish dX13_floatOn_126 wd_1770 wd_1772 wd_97 rfl h2 rfl (Nat.le_of_ble_eq_true rfl) (Nat.le_of_ble_eq_true rfl) (by omega) (by omega) (ls1 := [some (vR (some ar0)), some (vI x1), some (vI 1)]) rfl k
theorem BX13_floatOn_129 {d bc bs : Nat} {h : aH} {n : Nat} {Q : aQ} {r0 : Option Nat} {x1 x2 : Int} (k : Q none h n) : Rn d (bc) (bs) mX13_floatOn 129 [some (vR r0), some (vI x1), some (vI x2)] [] h n Q := by
  exact Rn_return rfl dX13_floatOn_129 k
theorem dX13_pass_0 : decode cX13_pass 0 = .ok (.iconst 0, 1) := by decide +kernel
theorem dX13_pass_1 : decode cX13_pass 1 = .ok (.istore_n 1, 1) := by decide +kernel
theorem dX13_pass_2 : decode cX13_pass 2 = .ok (.iload_n 1, 1) := by decide +kernel
theorem dX13_pass_3 : decode cX13_pass 3 = .ok (.aload_n 0, 1) := by decide +kernel
theorem dX13_pass_4 : decode cX13_pass 4 = .ok (.getfield 7, 3) := by decide +kernel
theorem dX13_pass_7 : decode cX13_pass 7 = .ok (.bipush 9, 2) := by decide +kernel
theorem dX13_pass_9 : decode cX13_pass 9 = .ok (.iaload, 1) := by decide +kernel
theorem dX13_pass_10 : decode cX13_pass 10 = .ok (.if_icmp .ge 22, 3) := by decide +kernel
theorem dX13_pass_13 : decode cX13_pass 13 = .ok (.aload_n 0, 1) := by decide +kernel
theorem dX13_pass_14 : decode cX13_pass 14 = .ok (.iload_n 1, 1) := by decide +kernel
theorem dX13_pass_15 : decode cX13_pass 15 = .ok (.invokevirtual 296, 3) := by decide +kernel
theorem dX13_pass_18 : decode cX13_pass 18 = .ok (.ifCond .eq 8, 3) := by decide +kernel
theorem dX13_pass_21 : decode cX13_pass 21 = .ok (.aload_n 0, 1) := by decide +kernel
theorem dX13_pass_22 : decode cX13_pass 22 = .ok (.iload_n 1, 1) := by decide +kernel
theorem dX13_pass_23 : decode cX13_pass 23 = .ok (.invokevirtual 340, 3) := by decide +kernel
theorem dX13_pass_26 : decode cX13_pass 26 = .ok (.iinc 1 1, 3) := by decide +kernel
theorem dX13_pass_29 : decode cX13_pass 29 = .ok (.goto (-27), 3) := by decide +kernel
theorem dX13_pass_32 : decode cX13_pass 32 = .ok (.aload_n 0, 1) := by decide +kernel
theorem dX13_pass_33 : decode cX13_pass 33 = .ok (.getfield 7, 3) := by decide +kernel
theorem dX13_pass_36 : decode cX13_pass 36 = .ok (.bipush 7, 2) := by decide +kernel
theorem dX13_pass_38 : decode cX13_pass 38 = .ok (.dup2, 1) := by decide +kernel
theorem dX13_pass_39 : decode cX13_pass 39 = .ok (.iaload, 1) := by decide +kernel
theorem dX13_pass_40 : decode cX13_pass 40 = .ok (.iconst 1, 1) := by decide +kernel
theorem dX13_pass_41 : decode cX13_pass 41 = .ok (.iadd, 1) := by decide +kernel
theorem dX13_pass_42 : decode cX13_pass 42 = .ok (.iastore, 1) := by decide +kernel
theorem dX13_pass_43 : decode cX13_pass 43 = .ok (.return_, 1) := by decide +kernel
theorem BX13_pass_0 {d bc bs : Nat} {h : aH} {n : Nat} {Q : aQ} {r0 : Option Nat} {l1 : Option aV} (k : Rn d bc bs mX13_pass 2 [some (vR r0), some (vI 0)] [] h n Q) : Rn d (bc) (bs) mX13_pass 0 [some (vR r0), l1] [] h n Q := by
  refine Rn_iconst dX13_pass_0 rfl ?_
  refine Rn_istore_n dX13_pass_1 rfl (Nat.le_of_ble_eq_true rfl) rfl rfl ?_
  exact k
theorem BX13_pass_2 {d bc bs : Nat} {h : aH} {n : Nat} {Q : aQ} {ar0 at3 : Nat} {x1 v7 : Int} {f1 : List aV} {w5 : List Int} (h2 : h ar0 = cO 13 f1) (g4 : f1[0]? = some (vR (some at3))) (h6 : h at3 = cI w5) (g8 : w5[(9 : Int).toNat]? = some v7) (kt : v7 ≤ x1 → Rn d bc bs mX13_pass 32 [some (vR (some ar0)), some (vI x1)] [] h n Q) (kf : x1 < v7 → Rn d bc bs mX13_pass 13 [some (vR (some ar0)), some (vI x1)] [] h n Q) : Rn d (bc) (bs) mX13_pass 2 [some (vR (some ar0)), some (vI x1)] [] h n Q := by
  refine Rn_iload_n dX13_pass_2 rfl rfl ?_
  refine Rn_aload_n dX13_pass_3 rfl rfl rfl ?_
  refine Rn_getfield (ci := 13) (k := 0) dX13_pass_4 rfl in_13 (Nat.le_of_ble_eq_true rfl) wd_1352 rfl h2 g4 ?_
  refine Rn_bipush dX13_pass_7 rfl ?_
  refine Rn_iaload dX13_pass_9 h6 (by decide) g8 ?_
  refine Rn_icmpge (tgt := 32) dX13_pass_10 rfl ?_ ?_
  · exact kt
  · exact kf
theorem BX13_pass_13 {d bc bs : Nat} {h : aH} {n : Nat} {Q : aQ} {ar0 : Nat} {x1 : Int} {f1 : List aV} (h2 : h ar0 = cO 13 f1) (k : Rn d 0 0 mX13_isAfloat 0 [some (vR (some ar0)), some (vI x1)] [] h n (fun v h1 n1 => Rn (d + 1) bc bs mX13_pass 18 [some (vR (some ar0)), some (vI x1)] (v.toList ++ []) h1 n1 Q)) : Rn (d + 1) (bc) (bs) mX13_pass 13 [some (vR (some ar0)), some (vI x1)] [] h n Q := by
  refine Rn_aload_n dX13_pass_13 rfl rfl rfl ?_
  refine Rn_iload_n dX13_pass_14 rfl rfl ?_
  exact Rn_callV (ci := 13) (avs := [vI x1]) (st := []) (bc1 := 0) (bs1 := 0) (bc2 := bc) (bs2 := bs) fx_X13_isAfloat dX13_pass_15 wd_1674 wd_1676 wd_80 rfl h2 rfl (Nat.le_of_ble_eq_true rfl) (Nat.le_of_ble_eq_true rfl) (by omega) (by omega) (ls1 := [some (vR (some ar0)), some (vI x1)]) rfl k
theorem BX13_pass_18 {d bc bs : Nat} {h : aH} {n : Nat} {Q : aQ} {r0 : Option Nat} {x1 s0 : Int} (kt : s0 = 0 → Rn d bc bs mX13_pass 26 [some (vR r0), some (vI x1)] [] h n Q) (kf : s0 ≠ 0 → Rn d bc bs mX13_pass 21 [some (vR r0), some (vI x1)] [] h n Q) : Rn d (bc) (bs) mX13_pass 18 [some (vR r0), some (vI x1)] [vI s0] h n Q := by
  refine Rn_ifeq (tgt := 26) dX13_pass_18 rfl ?_ ?_
  · exact kt
  · exact kf
theorem BX13_pass_21 {d bc bs : Nat} {h : aH} {n : Nat} {Q : aQ} {ar0 : Nat} {x1 : Int} {f1 : List aV} (h2 : h ar0 = cO 13 f1) (k : Rn d 0 0 mX13_floatOn 0 [some (vR (some ar0)), some (vI x1), none] [] h n (fun v h1 n1 => Rn (d + 1) bc bs mX13_pass 26 [some (vR (some ar0)), some (vI x1)] (v.toList ++ []) h1 n1 Q)) : Rn (d + 1) (bc) (bs) mX13_pass 21 [some (vR (some ar0)), some (vI x1)] [] h n Q := by
  refine Rn_aload_n dX13_pass_21 rfl rfl rfl ?_
  refine Rn_iload_n dX13_pass_22 rfl rfl ?_
  exact Rn_callV (ci := 13) (avs := [vI x1]) (st := []) (bc1 := 0) (bs1 := 0) (bc2 := bc) (bs2 := bs) fx_X13_floatOn dX13_pass_23 wd_1718 wd_1720 wd_89 rfl h2 rfl (Nat.le_of_ble_eq_true rfl) (Nat.le_of_ble_eq_true rfl) (by omega) (by omega) (ls1 := [some (vR (some ar0)), some (vI x1), none]) rfl k
theorem BX13_pass_26 {d bc bs : Nat} {h : aH} {n : Nat} {Q : aQ} {r0 : Option Nat} {x1 : Int} (b1 : -2147483648 ≤ x1 + 1 ∧ x1 + 1 < 2147483648) (k : Rn d bc bs mX13_pass 2 [some (vR r0), some (vI (x1 + 1))] [] h n Q) : Rn d (bc) (bs) mX13_pass 26 [some (vR r0), some (vI x1)] [] h n Q := by
  refine Rn_iinc dX13_pass_26 rfl (Nat.le_of_ble_eq_true rfl) rfl rfl rfl ?_
  rw [w32_id b1.1 b1.2]
  refine Rn_goto (tgt := 2) dX13_pass_29 rfl ?_
  exact k
theorem BX13_pass_32 {d bc bs : Nat} {h : aH} {n : Nat} {Q : aQ} {ar0 at3 : Nat} {x1 v7 : Int} {f1 : List aV} {w5 : List Int} (h2 : h ar0 = cO 13 f1) (g4 : f1[0]? = some (vR (some at3))) (h6 : h at3 = cI w5) (g8 : w5[(7 : Int).toNat]? = some v7) (b9 : -2147483648 ≤ v7 + 1 ∧ v7 + 1 < 2147483648) (j10 : (7 : Int) < w5.length) (z11 : at3 ≠ 0) (k : Rn d bc bs mX13_pass 43 [some (vR (some ar0)), some (vI x1)] [] (up h at3 (cI (w5.set (7 : Int).toNat (v7 + 1)))) n Q) : Rn d (bc) (bs) mX13_pass 32 [some (vR (some ar0)), some (vI x1)] [] h n Q := by
  refine Rn_aload_n dX13_pass_32 rfl rfl rfl ?_
  refine Rn_getfield (ci := 13) (k := 0) dX13_pass_33 rfl in_13 (Nat.le_of_ble_eq_true rfl) wd_1352 rfl h2 g4 ?_
  refine Rn_bipush dX13_pass_36 rfl ?_
  refine Rn_dup2 dX13_pass_38 rfl rfl ?_
  refine Rn_iaload dX13_pass_39 h6 (by decide) g8 ?_
  refine Rn_iconst dX13_pass_40 rfl ?_
  refine Rn_iadd dX13_pass_41 ?_
  rw [w32_id b9.1 b9.2]
  refine Rn_iastore dX13_pass_42 z11 h6 (by decide) j10 ?_
  exact k
theorem BX13_pass_43 {d bc bs : Nat} {h : aH} {n : Nat} {Q : aQ} {r0 : Option Nat} {x1 : Int} (k : Q none h n) : Rn d (bc) (bs) mX13_pass 43 [some (vR r0), some (vI x1)] [] h n Q := by
  exact Rn_return rfl dX13_pass_43 k
theorem dX13_keep_0 : decode cX13_keep 0 = .ok (.aload_n 0, 1) := by decide +kernel
theorem dX13_keep_1 : decode cX13_keep 1 = .ok (.getfield 7, 3) := by decide +kernel
theorem dX13_keep_4 : decode cX13_keep 4 = .ok (.iconst 3, 1) := by decide +kernel
theorem dX13_keep_5 : decode cX13_keep 5 = .ok (.iaload, 1) := by decide +kernel
theorem dX13_keep_6 : decode cX13_keep 6 = .ok (.bipush 30, 2) := by decide +kernel
theorem dX13_keep_8 : decode cX13_keep 8 = .ok (.if_icmp .ne 48, 3) := by decide +kernel
theorem dX13_keep_11 : decode cX13_keep 11 = .ok (.iconst 0, 1) := by decide +kernel
theorem dX13_keep_12 : decode cX13_keep 12 = .ok (.istore_n 1, 1) := by decide +kernel
theorem dX13_keep_13 : decode cX13_keep 13 = .ok (.iload_n 1, 1) := by decide +kernel
theorem dX13_keep_14 : decode cX13_keep 14 = .ok (.sipush 3074, 3) := by decide +kernel
theorem dX13_keep_17 : decode cX13_keep 17 = .ok (.if_icmp .ge 29, 3) := by decide +kernel
theorem dX13_keep_20 : decode cX13_keep 20 = .ok (.aload_n 0, 1) := by decide +kernel
theorem dX13_keep_21 : decode cX13_keep 21 = .ok (.getfield 7, 3) := by decide +kernel
theorem dX13_keep_24 : decode cX13_keep 24 = .ok (.sipush 179, 3) := by decide +kernel
theorem dX13_keep_27 : decode cX13_keep 27 = .ok (.iload_n 1, 1) := by decide +kernel
theorem dX13_keep_28 : decode cX13_keep 28 = .ok (.iadd, 1) := by decide +kernel
theorem dX13_keep_29 : decode cX13_keep 29 = .ok (.aload_n 0, 1) := by decide +kernel
theorem dX13_keep_30 : decode cX13_keep 30 = .ok (.getfield 7, 3) := by decide +kernel
theorem dX13_keep_33 : decode cX13_keep 33 = .ok (.sipush 285, 3) := by decide +kernel
theorem dX13_keep_36 : decode cX13_keep 36 = .ok (.iload_n 1, 1) := by decide +kernel
theorem dX13_keep_37 : decode cX13_keep 37 = .ok (.iadd, 1) := by decide +kernel
theorem dX13_keep_38 : decode cX13_keep 38 = .ok (.iaload, 1) := by decide +kernel
theorem dX13_keep_39 : decode cX13_keep 39 = .ok (.iastore, 1) := by decide +kernel
theorem dX13_keep_40 : decode cX13_keep 40 = .ok (.iinc 1 1, 3) := by decide +kernel
theorem dX13_keep_43 : decode cX13_keep 43 = .ok (.goto (-30), 3) := by decide +kernel
theorem dX13_keep_46 : decode cX13_keep 46 = .ok (.aload_n 0, 1) := by decide +kernel
theorem dX13_keep_47 : decode cX13_keep 47 = .ok (.getfield 7, 3) := by decide +kernel
theorem dX13_keep_50 : decode cX13_keep 50 = .ok (.iconst 3, 1) := by decide +kernel
theorem dX13_keep_51 : decode cX13_keep 51 = .ok (.dup2, 1) := by decide +kernel
theorem dX13_keep_52 : decode cX13_keep 52 = .ok (.iaload, 1) := by decide +kernel
theorem dX13_keep_53 : decode cX13_keep 53 = .ok (.iconst 1, 1) := by decide +kernel
theorem dX13_keep_54 : decode cX13_keep 54 = .ok (.isub, 1) := by decide +kernel
theorem dX13_keep_55 : decode cX13_keep 55 = .ok (.iastore, 1) := by decide +kernel
theorem dX13_keep_56 : decode cX13_keep 56 = .ok (.sipush 179, 3) := by decide +kernel
theorem dX13_keep_59 : decode cX13_keep 59 = .ok (.bipush 106, 2) := by decide +kernel
theorem dX13_keep_61 : decode cX13_keep 61 = .ok (.aload_n 0, 1) := by decide +kernel
theorem dX13_keep_62 : decode cX13_keep 62 = .ok (.getfield 7, 3) := by decide +kernel
theorem dX13_keep_65 : decode cX13_keep 65 = .ok (.iconst 3, 1) := by decide +kernel
theorem dX13_keep_66 : decode cX13_keep 66 = .ok (.iaload, 1) := by decide +kernel
theorem dX13_keep_67 : decode cX13_keep 67 = .ok (.imul, 1) := by decide +kernel
theorem dX13_keep_68 : decode cX13_keep 68 = .ok (.iadd, 1) := by decide +kernel
theorem dX13_keep_69 : decode cX13_keep 69 = .ok (.istore_n 1, 1) := by decide +kernel
theorem dX13_keep_70 : decode cX13_keep 70 = .ok (.iconst 0, 1) := by decide +kernel
theorem dX13_keep_71 : decode cX13_keep 71 = .ok (.istore_n 2, 1) := by decide +kernel
theorem dX13_keep_72 : decode cX13_keep 72 = .ok (.iload_n 2, 1) := by decide +kernel
theorem dX13_keep_73 : decode cX13_keep 73 = .ok (.bipush 76, 2) := by decide +kernel
theorem dX13_keep_75 : decode cX13_keep 75 = .ok (.if_icmp .ge 26, 3) := by decide +kernel
theorem dX13_keep_78 : decode cX13_keep 78 = .ok (.aload_n 0, 1) := by decide +kernel
theorem dX13_keep_79 : decode cX13_keep 79 = .ok (.getfield 7, 3) := by decide +kernel
theorem dX13_keep_82 : decode cX13_keep 82 = .ok (.iload_n 1, 1) := by decide +kernel
theorem dX13_keep_83 : decode cX13_keep 83 = .ok (.iload_n 2, 1) := by decide +kernel
theorem dX13_keep_84 : decode cX13_keep 84 = .ok (.iadd, 1) := by decide +kernel
theorem dX13_keep_85 : decode cX13_keep 85 = .ok (.aload_n 0, 1) := by decide +kernel
theorem dX13_keep_86 : decode cX13_keep 86 = .ok (.getfield 7, 3) := by decide +kernel
theorem dX13_keep_89 : decode cX13_keep 89 = .ok (.bipush 7, 2) := by decide +kernel
theorem dX13_keep_91 : decode cX13_keep 91 = .ok (.iload_n 2, 1) := by decide +kernel
theorem dX13_keep_92 : decode cX13_keep 92 = .ok (.iadd, 1) := by decide +kernel
theorem dX13_keep_93 : decode cX13_keep 93 = .ok (.iaload, 1) := by decide +kernel
theorem dX13_keep_94 : decode cX13_keep 94 = .ok (.iastore, 1) := by decide +kernel
theorem dX13_keep_95 : decode cX13_keep 95 = .ok (.iinc 2 1, 3) := by decide +kernel
theorem dX13_keep_98 : decode cX13_keep 98 = .ok (.goto (-26), 3) := by decide +kernel
theorem dX13_keep_101 : decode cX13_keep 101 = .ok (.iconst 0, 1) := by decide +kernel
theorem dX13_keep_102 : decode cX13_keep 102 = .ok (.istore_n 2, 1) := by decide +kernel
theorem dX13_keep_103 : decode cX13_keep 103 = .ok (.iload_n 2, 1) := by decide +kernel
theorem dX13_keep_104 : decode cX13_keep 104 = .ok (.bipush 30, 2) := by decide +kernel
theorem dX13_keep_106 : decode cX13_keep 106 = .ok (.if_icmp .ge 30, 3) := by decide +kernel
theorem dX13_keep_109 : decode cX13_keep 109 = .ok (.aload_n 0, 1) := by decide +kernel
theorem dX13_keep_110 : decode cX13_keep 110 = .ok (.getfield 7, 3) := by decide +kernel
theorem dX13_keep_113 : decode cX13_keep 113 = .ok (.iload_n 1, 1) := by decide +kernel
theorem dX13_keep_114 : decode cX13_keep 114 = .ok (.bipush 76, 2) := by decide +kernel
theorem dX13_keep_116 : decode cX13_keep 116 = .ok (.iadd, 1) := by decide +kernel
theorem dX13_keep_117 : decode cX13_keep 117 = .ok (.iload_n 2, 1) := by decide +kernel
theorem dX13_keep_118 : decode cX13_keep 118 = .ok (.iadd, 1) := by decide +kernel
theorem dX13_keep_119 : decode cX13_keep 119 = .ok (.aload_n 0, 1) := by decide +kernel
theorem dX13_keep_120 : decode cX13_keep 120 = .ok (.getfield 7, 3) := by decide +kernel
theorem dX13_keep_123 : decode cX13_keep 123 = .ok (.sipush 3359, 3) := by decide +kernel
theorem dX13_keep_126 : decode cX13_keep 126 = .ok (.iload_n 2, 1) := by decide +kernel
theorem dX13_keep_127 : decode cX13_keep 127 = .ok (.iadd, 1) := by decide +kernel
theorem dX13_keep_128 : decode cX13_keep 128 = .ok (.iaload, 1) := by decide +kernel
theorem dX13_keep_129 : decode cX13_keep 129 = .ok (.iastore, 1) := by decide +kernel
theorem dX13_keep_130 : decode cX13_keep 130 = .ok (.iinc 2 1, 3) := by decide +kernel
theorem dX13_keep_133 : decode cX13_keep 133 = .ok (.goto (-30), 3) := by decide +kernel
theorem dX13_keep_136 : decode cX13_keep 136 = .ok (.aload_n 0, 1) := by decide +kernel
theorem dX13_keep_137 : decode cX13_keep 137 = .ok (.getfield 7, 3) := by decide +kernel
theorem dX13_keep_140 : decode cX13_keep 140 = .ok (.iconst 3, 1) := by decide +kernel
theorem dX13_keep_141 : decode cX13_keep 141 = .ok (.dup2, 1) := by decide +kernel
theorem dX13_keep_142 : decode cX13_keep 142 = .ok (.iaload, 1) := by decide +kernel
theorem dX13_keep_143 : decode cX13_keep 143 = .ok (.iconst 1, 1) := by decide +kernel
theorem dX13_keep_144 : decode cX13_keep 144 = .ok (.iadd, 1) := by decide +kernel
theorem dX13_keep_145 : decode cX13_keep 145 = .ok (.iastore, 1) := by decide +kernel
theorem dX13_keep_146 : decode cX13_keep 146 = .ok (.return_, 1) := by decide +kernel
theorem BX13_keep_0 {d bc bs : Nat} {h : aH} {n : Nat} {Q : aQ} {ar0 at3 : Nat} {l1 l2 : Option aV} {f1 : List aV} {w5 : List Int} {v7 : Int} (h2 : h ar0 = cO 13 f1) (g4 : f1[0]? = some (vR (some at3))) (h6 : h at3 = cI w5) (g8 : w5[(3 : Int).toNat]? = some v7) (kt : v7 ≠ 30 → Rn d bc bs mX13_keep 56 [some (vR (some ar0)), l1, l2] [] h n Q) (kf : v7 = 30 → Rn d bc bs mX13_keep 11 [some (vR (some ar0)), l1, l2] [] h n Q) : Rn d (bc) (bs) mX13_keep 0 [some (vR (some ar0)), l1, l2] [] h n Q := by
  refine Rn_aload_n dX13_keep_0 rfl rfl rfl ?_
  refine Rn_getfield (ci := 13) (k := 0) dX13_keep_1 rfl in_13 (Nat.le_of_ble_eq_true rfl) wd_1352 rfl h2 g4 ?_
  refine Rn_iconst dX13_keep_4 rfl ?_
  refine Rn_iaload dX13_keep_5 h6 (by decide) g8 ?_
  refine Rn_bipush dX13_keep_6 rfl ?_
  refine Rn_icmpne (tgt := 56) dX13_keep_8 rfl ?_ ?_
  · exact kt
  · exact kf
theorem BX13_keep_11 {d bc bs : Nat} {h : aH} {n : Nat} {Q : aQ} {r0 : Option Nat} {l1 l2 : Option aV} (k : Rn d bc bs mX13_keep 13 [some (vR r0), some (vI 0), l2] [] h n Q) : Rn d (bc) (bs) mX13_keep 11 [some (vR r0), l1, l2] [] h n Q := by
  refine Rn_iconst dX13_keep_11 rfl ?_
  refine Rn_istore_n dX13_keep_12 rfl (Nat.le_of_ble_eq_true rfl) rfl rfl ?_
  exact k
theorem BX13_keep_13 {d bc bs : Nat} {h : aH} {n : Nat} {Q : aQ} {r0 : Option Nat} {x1 : Int} {l2 : Option aV} (kt : 3074 ≤ x1 → Rn d bc bs mX13_keep 46 [some (vR r0), some (vI x1), l2] [] h n Q) (kf : x1 < 3074 → Rn d bc bs mX13_keep 20 [some (vR r0), some (vI x1), l2] [] h n Q) : Rn d (bc) (bs) mX13_keep 13 [some (vR r0), some (vI x1), l2] [] h n Q := by
  refine Rn_iload_n dX13_keep_13 rfl rfl ?_
  refine Rn_sipush dX13_keep_14 rfl ?_
  refine Rn_icmpge (tgt := 46) dX13_keep_17 rfl ?_ ?_
  · exact kt
  · exact kf
theorem BX13_keep_20 {d bc bs : Nat} {h : aH} {n : Nat} {Q : aQ} {ar0 at3 : Nat} {x1 v9 : Int} {l2 : Option aV} {f1 : List aV} {w7 : List Int} (h2 : h ar0 = cO 13 f1) (g4 : f1[0]? = some (vR (some at3))) (b5 : -2147483648 ≤ 179 + x1 ∧ 179 + x1 < 2147483648) (b6 : -2147483648 ≤ 285 + x1 ∧ 285 + x1 < 2147483648) (h8 : h at3 = cI w7) (i10 : 0 ≤ 285 + x1) (g11 : w7[(285 + x1 : Int).toNat]? = some v9) (i12 : 0 ≤ 179 + x1) (j13 : 179 + x1 < w7.length) (z14 : at3 ≠ 0) (k : Rn d bc bs mX13_keep 40 [some (vR (some ar0)), some (vI x1), l2] [] (up h at3 (cI (w7.set (179 + x1 : Int).toNat v9))) n Q) : Rn d (bc) (bs) mX13_keep 20 [some (vR (some ar0)), some (vI x1), l2] [] h n Q := by
  refine Rn_aload_n dX13_keep_20 rfl rfl rfl ?_
  refine Rn_getfield (ci := 13) (k := 0) dX13_keep_21 rfl in_13 (Nat.le_of_ble_eq_true rfl) wd_1352 rfl h2 g4 ?_
  refine Rn_sipush dX13_keep_24 rfl ?_
  refine Rn_iload_n dX13_keep_27 rfl rfl ?_
  refine Rn_iadd dX13_keep_28 ?_
  rw [w32_id b5.1 b5.2]
  refine Rn_aload_n dX13_keep_29 rfl rfl rfl ?_
  refine Rn_getfield (ci := 13) (k := 0) dX13_keep_30 rfl in_13 (Nat.le_of_ble_eq_true rfl) wd_1352 rfl h2 g4 ?_
  refine Rn_sipush dX13_keep_33 rfl ?_
  refine Rn_iload_n dX13_keep_36 rfl rfl ?_
  refine Rn_iadd dX13_keep_37 ?_
  rw [w32_id b6.1 b6.2]
  refine Rn_iaload dX13_keep_38 h8 i10 g11 ?_
  refine Rn_iastore dX13_keep_39 z14 h8 i12 j13 ?_
  exact k
theorem BX13_keep_40 {d bc bs : Nat} {h : aH} {n : Nat} {Q : aQ} {r0 : Option Nat} {x1 : Int} {l2 : Option aV} (b1 : -2147483648 ≤ x1 + 1 ∧ x1 + 1 < 2147483648) (k : Rn d bc bs mX13_keep 13 [some (vR r0), some (vI (x1 + 1)), l2] [] h n Q) : Rn d (bc) (bs) mX13_keep 40 [some (vR r0), some (vI x1), l2] [] h n Q := by
  refine Rn_iinc dX13_keep_40 rfl (Nat.le_of_ble_eq_true rfl) rfl rfl rfl ?_
  rw [w32_id b1.1 b1.2]
  refine Rn_goto (tgt := 13) dX13_keep_43 rfl ?_
  exact k
theorem BX13_keep_46 {d bc bs : Nat} {h : aH} {n : Nat} {Q : aQ} {ar0 at3 : Nat} {x1 v7 : Int} {l2 : Option aV} {f1 : List aV} {w5 : List Int} (h2 : h ar0 = cO 13 f1) (g4 : f1[0]? = some (vR (some at3))) (h6 : h at3 = cI w5) (g8 : w5[(3 : Int).toNat]? = some v7) (b9 : -2147483648 ≤ v7 - 1 ∧ v7 - 1 < 2147483648) (j10 : (3 : Int) < w5.length) (z11 : at3 ≠ 0) (k : Rn d bc bs mX13_keep 56 [some (vR (some ar0)), some (vI x1), l2] [] (up h at3 (cI (w5.set (3 : Int).toNat (v7 - 1)))) n Q) : Rn d (bc) (bs) mX13_keep 46 [some (vR (some ar0)), some (vI x1), l2] [] h n Q := by
  refine Rn_aload_n dX13_keep_46 rfl rfl rfl ?_
  refine Rn_getfield (ci := 13) (k := 0) dX13_keep_47 rfl in_13 (Nat.le_of_ble_eq_true rfl) wd_1352 rfl h2 g4 ?_
  refine Rn_iconst dX13_keep_50 rfl ?_
  refine Rn_dup2 dX13_keep_51 rfl rfl ?_
  refine Rn_iaload dX13_keep_52 h6 (by decide) g8 ?_
  refine Rn_iconst dX13_keep_53 rfl ?_
  refine Rn_isub dX13_keep_54 ?_
  rw [w32_id b9.1 b9.2]
  refine Rn_iastore dX13_keep_55 z11 h6 (by decide) j10 ?_
  exact k
theorem BX13_keep_56 {d bc bs : Nat} {h : aH} {n : Nat} {Q : aQ} {ar0 at3 : Nat} {l1 l2 : Option aV} {f1 : List aV} {w5 : List Int} {v7 : Int} (h2 : h ar0 = cO 13 f1) (g4 : f1[0]? = some (vR (some at3))) (h6 : h at3 = cI w5) (g8 : w5[(3 : Int).toNat]? = some v7) (b9 : -2147483648 ≤ 106 * v7 ∧ 106 * v7 < 2147483648) (b10 : -2147483648 ≤ 179 + (106 * v7) ∧ 179 + (106 * v7) < 2147483648) (k : Rn d bc bs mX13_keep 72 [some (vR (some ar0)), some (vI (179 + (106 * v7))), some (vI 0)] [] h n Q) : Rn d (bc) (bs) mX13_keep 56 [some (vR (some ar0)), l1, l2] [] h n Q := by
  refine Rn_sipush dX13_keep_56 rfl ?_
  refine Rn_bipush dX13_keep_59 rfl ?_
  refine Rn_aload_n dX13_keep_61 rfl rfl rfl ?_
  refine Rn_getfield (ci := 13) (k := 0) dX13_keep_62 rfl in_13 (Nat.le_of_ble_eq_true rfl) wd_1352 rfl h2 g4 ?_
  refine Rn_iconst dX13_keep_65 rfl ?_
  refine Rn_iaload dX13_keep_66 h6 (by decide) g8 ?_
  refine Rn_imul dX13_keep_67 ?_
  rw [w32_id b9.1 b9.2]
  refine Rn_iadd dX13_keep_68 ?_
  rw [w32_id b10.1 b10.2]
  refine Rn_istore_n dX13_keep_69 rfl (Nat.le_of_ble_eq_true rfl) rfl rfl ?_
  refine Rn_iconst dX13_keep_70 rfl ?_
  refine Rn_istore_n dX13_keep_71 rfl (Nat.le_of_ble_eq_true rfl) rfl rfl ?_
  exact k
theorem BX13_keep_72 {d bc bs : Nat} {h : aH} {n : Nat} {Q : aQ} {r0 : Option Nat} {x1 x2 : Int} (kt : 76 ≤ x2 → Rn d bc bs mX13_keep 101 [some (vR r0), some (vI x1), some (vI x2)] [] h n Q) (kf : x2 < 76 → Rn d bc bs mX13_keep 78 [some (vR r0), some (vI x1), some (vI x2)] [] h n Q) : Rn d (bc) (bs) mX13_keep 72 [some (vR r0), some (vI x1), some (vI x2)] [] h n Q := by
  refine Rn_iload_n dX13_keep_72 rfl rfl ?_
  refine Rn_bipush dX13_keep_73 rfl ?_
  refine Rn_icmpge (tgt := 101) dX13_keep_75 rfl ?_ ?_
  · exact kt
  · exact kf
theorem BX13_keep_78 {d bc bs : Nat} {h : aH} {n : Nat} {Q : aQ} {ar0 at3 : Nat} {x1 x2 v9 : Int} {f1 : List aV} {w7 : List Int} (h2 : h ar0 = cO 13 f1) (g4 : f1[0]? = some (vR (some at3))) (b5 : -2147483648 ≤ x1 + x2 ∧ x1 + x2 < 2147483648) (b6 : -2147483648 ≤ 7 + x2 ∧ 7 + x2 < 2147483648) (h8 : h at3 = cI w7) (i10 : 0 ≤ 7 + x2) (g11 : w7[(7 + x2 : Int).toNat]? = some v9) (i12 : 0 ≤ x1 + x2) (j13 : x1 + x2 < w7.length) (z14 : at3 ≠ 0) (k : Rn d bc bs mX13_keep 95 [some (vR (some ar0)), some (vI x1), some (vI x2)] [] (up h at3 (cI (w7.set (x1 + x2 : Int).toNat v9))) n Q) : Rn d (bc) (bs) mX13_keep 78 [some (vR (some ar0)), some (vI x1), some (vI x2)] [] h n Q := by
  refine Rn_aload_n dX13_keep_78 rfl rfl rfl ?_
  refine Rn_getfield (ci := 13) (k := 0) dX13_keep_79 rfl in_13 (Nat.le_of_ble_eq_true rfl) wd_1352 rfl h2 g4 ?_
  refine Rn_iload_n dX13_keep_82 rfl rfl ?_
  refine Rn_iload_n dX13_keep_83 rfl rfl ?_
  refine Rn_iadd dX13_keep_84 ?_
  rw [w32_id b5.1 b5.2]
  refine Rn_aload_n dX13_keep_85 rfl rfl rfl ?_
  refine Rn_getfield (ci := 13) (k := 0) dX13_keep_86 rfl in_13 (Nat.le_of_ble_eq_true rfl) wd_1352 rfl h2 g4 ?_
  refine Rn_bipush dX13_keep_89 rfl ?_
  refine Rn_iload_n dX13_keep_91 rfl rfl ?_
  refine Rn_iadd dX13_keep_92 ?_
  rw [w32_id b6.1 b6.2]
  refine Rn_iaload dX13_keep_93 h8 i10 g11 ?_
  refine Rn_iastore dX13_keep_94 z14 h8 i12 j13 ?_
  exact k
theorem BX13_keep_95 {d bc bs : Nat} {h : aH} {n : Nat} {Q : aQ} {r0 : Option Nat} {x1 x2 : Int} (b1 : -2147483648 ≤ x2 + 1 ∧ x2 + 1 < 2147483648) (k : Rn d bc bs mX13_keep 72 [some (vR r0), some (vI x1), some (vI (x2 + 1))] [] h n Q) : Rn d (bc) (bs) mX13_keep 95 [some (vR r0), some (vI x1), some (vI x2)] [] h n Q := by
  refine Rn_iinc dX13_keep_95 rfl (Nat.le_of_ble_eq_true rfl) rfl rfl rfl ?_
  rw [w32_id b1.1 b1.2]
  refine Rn_goto (tgt := 72) dX13_keep_98 rfl ?_
  exact k
theorem BX13_keep_101 {d bc bs : Nat} {h : aH} {n : Nat} {Q : aQ} {r0 : Option Nat} {x1 x2 : Int} (k : Rn d bc bs mX13_keep 103 [some (vR r0), some (vI x1), some (vI 0)] [] h n Q) : Rn d (bc) (bs) mX13_keep 101 [some (vR r0), some (vI x1), some (vI x2)] [] h n Q := by
  refine Rn_iconst dX13_keep_101 rfl ?_
  refine Rn_istore_n dX13_keep_102 rfl (Nat.le_of_ble_eq_true rfl) rfl rfl ?_
  exact k
theorem BX13_keep_103 {d bc bs : Nat} {h : aH} {n : Nat} {Q : aQ} {r0 : Option Nat} {x1 x2 : Int} (kt : 30 ≤ x2 → Rn d bc bs mX13_keep 136 [some (vR r0), some (vI x1), some (vI x2)] [] h n Q) (kf : x2 < 30 → Rn d bc bs mX13_keep 109 [some (vR r0), some (vI x1), some (vI x2)] [] h n Q) : Rn d (bc) (bs) mX13_keep 103 [some (vR r0), some (vI x1), some (vI x2)] [] h n Q := by
  refine Rn_iload_n dX13_keep_103 rfl rfl ?_
  refine Rn_bipush dX13_keep_104 rfl ?_
  refine Rn_icmpge (tgt := 136) dX13_keep_106 rfl ?_ ?_
  · exact kt
  · exact kf
theorem BX13_keep_109 {d bc bs : Nat} {h : aH} {n : Nat} {Q : aQ} {ar0 at3 : Nat} {x1 x2 v10 : Int} {f1 : List aV} {w8 : List Int} (h2 : h ar0 = cO 13 f1) (g4 : f1[0]? = some (vR (some at3))) (b5 : -2147483648 ≤ x1 + 76 ∧ x1 + 76 < 2147483648) (b6 : -2147483648 ≤ (x1 + 76) + x2 ∧ (x1 + 76) + x2 < 2147483648) (b7 : -2147483648 ≤ 3359 + x2 ∧ 3359 + x2 < 2147483648) (h9 : h at3 = cI w8) (i11 : 0 ≤ 3359 + x2) (g12 : w8[(3359 + x2 : Int).toNat]? = some v10) (i13 : 0 ≤ (x1 + 76) + x2) (j14 : (x1 + 76) + x2 < w8.length) (z15 : at3 ≠ 0) (k : Rn d bc bs mX13_keep 130 [some (vR (some ar0)), some (vI x1), some (vI x2)] [] (up h at3 (cI (w8.set ((x1 + 76) + x2 : Int).toNat v10))) n Q) : Rn d (bc) (bs) mX13_keep 109 [some (vR (some ar0)), some (vI x1), some (vI x2)] [] h n Q := by
  refine Rn_aload_n dX13_keep_109 rfl rfl rfl ?_
  refine Rn_getfield (ci := 13) (k := 0) dX13_keep_110 rfl in_13 (Nat.le_of_ble_eq_true rfl) wd_1352 rfl h2 g4 ?_
  refine Rn_iload_n dX13_keep_113 rfl rfl ?_
  refine Rn_bipush dX13_keep_114 rfl ?_
  refine Rn_iadd dX13_keep_116 ?_
  rw [w32_id b5.1 b5.2]
  refine Rn_iload_n dX13_keep_117 rfl rfl ?_
  refine Rn_iadd dX13_keep_118 ?_
  rw [w32_id b6.1 b6.2]
  refine Rn_aload_n dX13_keep_119 rfl rfl rfl ?_
  refine Rn_getfield (ci := 13) (k := 0) dX13_keep_120 rfl in_13 (Nat.le_of_ble_eq_true rfl) wd_1352 rfl h2 g4 ?_
  refine Rn_sipush dX13_keep_123 rfl ?_
  refine Rn_iload_n dX13_keep_126 rfl rfl ?_
  refine Rn_iadd dX13_keep_127 ?_
  rw [w32_id b7.1 b7.2]
  refine Rn_iaload dX13_keep_128 h9 i11 g12 ?_
  refine Rn_iastore dX13_keep_129 z15 h9 i13 j14 ?_
  exact k
theorem BX13_keep_130 {d bc bs : Nat} {h : aH} {n : Nat} {Q : aQ} {r0 : Option Nat} {x1 x2 : Int} (b1 : -2147483648 ≤ x2 + 1 ∧ x2 + 1 < 2147483648) (k : Rn d bc bs mX13_keep 103 [some (vR r0), some (vI x1), some (vI (x2 + 1))] [] h n Q) : Rn d (bc) (bs) mX13_keep 130 [some (vR r0), some (vI x1), some (vI x2)] [] h n Q := by
  refine Rn_iinc dX13_keep_130 rfl (Nat.le_of_ble_eq_true rfl) rfl rfl rfl ?_
  rw [w32_id b1.1 b1.2]
  refine Rn_goto (tgt := 103) dX13_keep_133 rfl ?_
  exact k
theorem BX13_keep_136 {d bc bs : Nat} {h : aH} {n : Nat} {Q : aQ} {ar0 at3 : Nat} {x1 x2 v7 : Int} {f1 : List aV} {w5 : List Int} (h2 : h ar0 = cO 13 f1) (g4 : f1[0]? = some (vR (some at3))) (h6 : h at3 = cI w5) (g8 : w5[(3 : Int).toNat]? = some v7) (b9 : -2147483648 ≤ v7 + 1 ∧ v7 + 1 < 2147483648) (j10 : (3 : Int) < w5.length) (z11 : at3 ≠ 0) (k : Rn d bc bs mX13_keep 146 [some (vR (some ar0)), some (vI x1), some (vI x2)] [] (up h at3 (cI (w5.set (3 : Int).toNat (v7 + 1)))) n Q) : Rn d (bc) (bs) mX13_keep 136 [some (vR (some ar0)), some (vI x1), some (vI x2)] [] h n Q := by
  refine Rn_aload_n dX13_keep_136 rfl rfl rfl ?_
  refine Rn_getfield (ci := 13) (k := 0) dX13_keep_137 rfl in_13 (Nat.le_of_ble_eq_true rfl) wd_1352 rfl h2 g4 ?_
  refine Rn_iconst dX13_keep_140 rfl ?_
  refine Rn_dup2 dX13_keep_141 rfl rfl ?_
  refine Rn_iaload dX13_keep_142 h6 (by decide) g8 ?_
  refine Rn_iconst dX13_keep_143 rfl ?_
  refine Rn_iadd dX13_keep_144 ?_
  rw [w32_id b9.1 b9.2]
  refine Rn_iastore dX13_keep_145 z11 h6 (by decide) j10 ?_
  exact k
theorem BX13_keep_146 {d bc bs : Nat} {h : aH} {n : Nat} {Q : aQ} {r0 : Option Nat} {x1 x2 : Int} (k : Q none h n) : Rn d (bc) (bs) mX13_keep 146 [some (vR r0), some (vI x1), some (vI x2)] [] h n Q := by
  exact Rn_return rfl dX13_keep_146 k
theorem dX13_undo_0 : decode cX13_undo 0 = .ok (.aload_n 0, 1) := by decide +kernel
theorem dX13_undo_1 : decode cX13_undo 1 = .ok (.getfield 7, 3) := by decide +kernel
theorem dX13_undo_4 : decode cX13_undo 4 = .ok (.iconst 3, 1) := by decide +kernel
theorem dX13_undo_5 : decode cX13_undo 5 = .ok (.iaload, 1) := by decide +kernel
theorem dX13_undo_6 : decode cX13_undo 6 = .ok (.ifCond .ne 5, 3) := by decide +kernel
theorem dX13_undo_9 : decode cX13_undo 9 = .ok (.iconst (-1), 1) := by decide +kernel
theorem dX13_undo_10 : decode cX13_undo 10 = .ok (.ireturn, 1) := by decide +kernel
theorem dX13_undo_11 : decode cX13_undo 11 = .ok (.aload_n 0, 1) := by decide +kernel
theorem dX13_undo_12 : decode cX13_undo 12 = .ok (.getfield 7, 3) := by decide +kernel
theorem dX13_undo_15 : decode cX13_undo 15 = .ok (.iconst 3, 1) := by decide +kernel
theorem dX13_undo_16 : decode cX13_undo 16 = .ok (.dup2, 1) := by decide +kernel
theorem dX13_undo_17 : decode cX13_undo 17 = .ok (.iaload, 1) := by decide +kernel
theorem dX13_undo_18 : decode cX13_undo 18 = .ok (.iconst 1, 1) := by decide +kernel
theorem dX13_undo_19 : decode cX13_undo 19 = .ok (.isub, 1) := by decide +kernel
theorem dX13_undo_20 : decode cX13_undo 20 = .ok (.iastore, 1) := by decide +kernel
theorem dX13_undo_21 : decode cX13_undo 21 = .ok (.sipush 179, 3) := by decide +kernel
theorem dX13_undo_24 : decode cX13_undo 24 = .ok (.bipush 106, 2) := by decide +kernel
theorem dX13_undo_26 : decode cX13_undo 26 = .ok (.aload_n 0, 1) := by decide +kernel
theorem dX13_undo_27 : decode cX13_undo 27 = .ok (.getfield 7, 3) := by decide +kernel
theorem dX13_undo_30 : decode cX13_undo 30 = .ok (.iconst 3, 1) := by decide +kernel
theorem dX13_undo_31 : decode cX13_undo 31 = .ok (.iaload, 1) := by decide +kernel
theorem dX13_undo_32 : decode cX13_undo 32 = .ok (.imul, 1) := by decide +kernel
theorem dX13_undo_33 : decode cX13_undo 33 = .ok (.iadd, 1) := by decide +kernel
theorem dX13_undo_34 : decode cX13_undo 34 = .ok (.istore_n 1, 1) := by decide +kernel
theorem dX13_undo_35 : decode cX13_undo 35 = .ok (.iconst 0, 1) := by decide +kernel
theorem dX13_undo_36 : decode cX13_undo 36 = .ok (.istore_n 2, 1) := by decide +kernel
theorem dX13_undo_37 : decode cX13_undo 37 = .ok (.iload_n 2, 1) := by decide +kernel
theorem dX13_undo_38 : decode cX13_undo 38 = .ok (.bipush 76, 2) := by decide +kernel
theorem dX13_undo_40 : decode cX13_undo 40 = .ok (.if_icmp .ge 26, 3) := by decide +kernel
theorem dX13_undo_43 : decode cX13_undo 43 = .ok (.aload_n 0, 1) := by decide +kernel
theorem dX13_undo_44 : decode cX13_undo 44 = .ok (.getfield 7, 3) := by decide +kernel
theorem dX13_undo_47 : decode cX13_undo 47 = .ok (.bipush 7, 2) := by decide +kernel
theorem dX13_undo_49 : decode cX13_undo 49 = .ok (.iload_n 2, 1) := by decide +kernel
theorem dX13_undo_50 : decode cX13_undo 50 = .ok (.iadd, 1) := by decide +kernel
theorem dX13_undo_51 : decode cX13_undo 51 = .ok (.aload_n 0, 1) := by decide +kernel
theorem dX13_undo_52 : decode cX13_undo 52 = .ok (.getfield 7, 3) := by decide +kernel
theorem dX13_undo_55 : decode cX13_undo 55 = .ok (.iload_n 1, 1) := by decide +kernel
theorem dX13_undo_56 : decode cX13_undo 56 = .ok (.iload_n 2, 1) := by decide +kernel
theorem dX13_undo_57 : decode cX13_undo 57 = .ok (.iadd, 1) := by decide +kernel
theorem dX13_undo_58 : decode cX13_undo 58 = .ok (.iaload, 1) := by decide +kernel
theorem dX13_undo_59 : decode cX13_undo 59 = .ok (.iastore, 1) := by decide +kernel
theorem dX13_undo_60 : decode cX13_undo 60 = .ok (.iinc 2 1, 3) := by decide +kernel
theorem dX13_undo_63 : decode cX13_undo 63 = .ok (.goto (-26), 3) := by decide +kernel
theorem dX13_undo_66 : decode cX13_undo 66 = .ok (.iconst 0, 1) := by decide +kernel
theorem dX13_undo_67 : decode cX13_undo 67 = .ok (.istore_n 2, 1) := by decide +kernel
theorem dX13_undo_68 : decode cX13_undo 68 = .ok (.iload_n 2, 1) := by decide +kernel
theorem dX13_undo_69 : decode cX13_undo 69 = .ok (.bipush 30, 2) := by decide +kernel
theorem dX13_undo_71 : decode cX13_undo 71 = .ok (.if_icmp .ge 30, 3) := by decide +kernel
theorem dX13_undo_74 : decode cX13_undo 74 = .ok (.aload_n 0, 1) := by decide +kernel
theorem dX13_undo_75 : decode cX13_undo 75 = .ok (.getfield 7, 3) := by decide +kernel
theorem dX13_undo_78 : decode cX13_undo 78 = .ok (.sipush 3359, 3) := by decide +kernel
theorem dX13_undo_81 : decode cX13_undo 81 = .ok (.iload_n 2, 1) := by decide +kernel
theorem dX13_undo_82 : decode cX13_undo 82 = .ok (.iadd, 1) := by decide +kernel
theorem dX13_undo_83 : decode cX13_undo 83 = .ok (.aload_n 0, 1) := by decide +kernel
theorem dX13_undo_84 : decode cX13_undo 84 = .ok (.getfield 7, 3) := by decide +kernel
theorem dX13_undo_87 : decode cX13_undo 87 = .ok (.iload_n 1, 1) := by decide +kernel
theorem dX13_undo_88 : decode cX13_undo 88 = .ok (.bipush 76, 2) := by decide +kernel
theorem dX13_undo_90 : decode cX13_undo 90 = .ok (.iadd, 1) := by decide +kernel
theorem dX13_undo_91 : decode cX13_undo 91 = .ok (.iload_n 2, 1) := by decide +kernel
theorem dX13_undo_92 : decode cX13_undo 92 = .ok (.iadd, 1) := by decide +kernel
theorem dX13_undo_93 : decode cX13_undo 93 = .ok (.iaload, 1) := by decide +kernel
theorem dX13_undo_94 : decode cX13_undo 94 = .ok (.iastore, 1) := by decide +kernel
theorem dX13_undo_95 : decode cX13_undo 95 = .ok (.iinc 2 1, 3) := by decide +kernel
theorem dX13_undo_98 : decode cX13_undo 98 = .ok (.goto (-30), 3) := by decide +kernel
theorem dX13_undo_101 : decode cX13_undo 101 = .ok (.aload_n 0, 1) := by decide +kernel
theorem dX13_undo_102 : decode cX13_undo 102 = .ok (.getfield 7, 3) := by decide +kernel
theorem dX13_undo_105 : decode cX13_undo 105 = .ok (.iconst 3, 1) := by decide +kernel
theorem dX13_undo_106 : decode cX13_undo 106 = .ok (.iaload, 1) := by decide +kernel
theorem dX13_undo_107 : decode cX13_undo 107 = .ok (.ireturn, 1) := by decide +kernel
theorem BX13_undo_0 {d bc bs : Nat} {h : aH} {n : Nat} {Q : aQ} {ar0 at3 : Nat} {l1 l2 : Option aV} {f1 : List aV} {w5 : List Int} {v7 : Int} (h2 : h ar0 = cO 13 f1) (g4 : f1[0]? = some (vR (some at3))) (h6 : h at3 = cI w5) (g8 : w5[(3 : Int).toNat]? = some v7) (kt : v7 ≠ 0 → Rn d bc bs mX13_undo 11 [some (vR (some ar0)), l1, l2] [] h n Q) (kf : v7 = 0 → Rn d bc bs mX13_undo 9 [some (vR (some ar0)), l1, l2] [] h n Q) : Rn d (bc) (bs) mX13_undo 0 [some (vR (some ar0)), l1, l2] [] h n Q := by
  refine Rn_aload_n dX13_undo_0 rfl rfl rfl ?_
  refine Rn_getfield (ci := 13) (k := 0) dX13_undo_1 rfl in_13 (Nat.le_of_ble_eq_true rfl) wd_1352 rfl h2 g4 ?_
  refine Rn_iconst dX13_undo_4 rfl ?_
  refine Rn_iaload dX13_undo_5 h6 (by decide) g8 ?_
  refine Rn_ifne (tgt := 11) dX13_undo_6 rfl ?_ ?_
  · exact kt
  · exact kf
theorem BX13_undo_9 {d bc bs : Nat} {h : aH} {n : Nat} {Q : aQ} {r0 : Option Nat} {l1 l2 : Option aV} (k : Q (some (vI (-1))) h n) : Rn d (bc) (bs) mX13_undo 9 [some (vR r0), l1, l2] [] h n Q := by
  refine Rn_iconst dX13_undo_9 rfl ?_
  exact Rn_ireturn rfl dX13_undo_10 k
theorem BX13_undo_11 {d bc bs : Nat} {h : aH} {n : Nat} {Q : aQ} {ar0 at3 : Nat} {l1 l2 : Option aV} {f1 : List aV} {w5 : List Int} {v7 : Int} (h2 : h ar0 = cO 13 f1) (g4 : f1[0]? = some (vR (some at3))) (h6 : h at3 = cI w5) (g8 : w5[(3 : Int).toNat]? = some v7) (b9 : -2147483648 ≤ v7 - 1 ∧ v7 - 1 < 2147483648) (j10 : (3 : Int) < w5.length) (z11 : at3 ≠ 0) (k : Rn d bc bs mX13_undo 21 [some (vR (some ar0)), l1, l2] [] (up h at3 (cI (w5.set (3 : Int).toNat (v7 - 1)))) n Q) : Rn d (bc) (bs) mX13_undo 11 [some (vR (some ar0)), l1, l2] [] h n Q := by
  refine Rn_aload_n dX13_undo_11 rfl rfl rfl ?_
  refine Rn_getfield (ci := 13) (k := 0) dX13_undo_12 rfl in_13 (Nat.le_of_ble_eq_true rfl) wd_1352 rfl h2 g4 ?_
  refine Rn_iconst dX13_undo_15 rfl ?_
  refine Rn_dup2 dX13_undo_16 rfl rfl ?_
  refine Rn_iaload dX13_undo_17 h6 (by decide) g8 ?_
  refine Rn_iconst dX13_undo_18 rfl ?_
  refine Rn_isub dX13_undo_19 ?_
  rw [w32_id b9.1 b9.2]
  refine Rn_iastore dX13_undo_20 z11 h6 (by decide) j10 ?_
  exact k
theorem BX13_undo_21 {d bc bs : Nat} {h : aH} {n : Nat} {Q : aQ} {ar0 at3 : Nat} {l1 l2 : Option aV} {f1 : List aV} {w5 : List Int} {v7 : Int} (h2 : h ar0 = cO 13 f1) (g4 : f1[0]? = some (vR (some at3))) (h6 : h at3 = cI w5) (g8 : w5[(3 : Int).toNat]? = some v7) (b9 : -2147483648 ≤ 106 * v7 ∧ 106 * v7 < 2147483648) (b10 : -2147483648 ≤ 179 + (106 * v7) ∧ 179 + (106 * v7) < 2147483648) (k : Rn d bc bs mX13_undo 37 [some (vR (some ar0)), some (vI (179 + (106 * v7))), some (vI 0)] [] h n Q) : Rn d (bc) (bs) mX13_undo 21 [some (vR (some ar0)), l1, l2] [] h n Q := by
  refine Rn_sipush dX13_undo_21 rfl ?_
  refine Rn_bipush dX13_undo_24 rfl ?_
  refine Rn_aload_n dX13_undo_26 rfl rfl rfl ?_
  refine Rn_getfield (ci := 13) (k := 0) dX13_undo_27 rfl in_13 (Nat.le_of_ble_eq_true rfl) wd_1352 rfl h2 g4 ?_
  refine Rn_iconst dX13_undo_30 rfl ?_
  refine Rn_iaload dX13_undo_31 h6 (by decide) g8 ?_
  refine Rn_imul dX13_undo_32 ?_
  rw [w32_id b9.1 b9.2]
  refine Rn_iadd dX13_undo_33 ?_
  rw [w32_id b10.1 b10.2]
  refine Rn_istore_n dX13_undo_34 rfl (Nat.le_of_ble_eq_true rfl) rfl rfl ?_
  refine Rn_iconst dX13_undo_35 rfl ?_
  refine Rn_istore_n dX13_undo_36 rfl (Nat.le_of_ble_eq_true rfl) rfl rfl ?_
  exact k
theorem BX13_undo_37 {d bc bs : Nat} {h : aH} {n : Nat} {Q : aQ} {r0 : Option Nat} {x1 x2 : Int} (kt : 76 ≤ x2 → Rn d bc bs mX13_undo 66 [some (vR r0), some (vI x1), some (vI x2)] [] h n Q) (kf : x2 < 76 → Rn d bc bs mX13_undo 43 [some (vR r0), some (vI x1), some (vI x2)] [] h n Q) : Rn d (bc) (bs) mX13_undo 37 [some (vR r0), some (vI x1), some (vI x2)] [] h n Q := by
  refine Rn_iload_n dX13_undo_37 rfl rfl ?_
  refine Rn_bipush dX13_undo_38 rfl ?_
  refine Rn_icmpge (tgt := 66) dX13_undo_40 rfl ?_ ?_
  · exact kt
  · exact kf
theorem BX13_undo_43 {d bc bs : Nat} {h : aH} {n : Nat} {Q : aQ} {ar0 at3 : Nat} {x1 x2 v9 : Int} {f1 : List aV} {w7 : List Int} (h2 : h ar0 = cO 13 f1) (g4 : f1[0]? = some (vR (some at3))) (b5 : -2147483648 ≤ 7 + x2 ∧ 7 + x2 < 2147483648) (b6 : -2147483648 ≤ x1 + x2 ∧ x1 + x2 < 2147483648) (h8 : h at3 = cI w7) (i10 : 0 ≤ x1 + x2) (g11 : w7[(x1 + x2 : Int).toNat]? = some v9) (i12 : 0 ≤ 7 + x2) (j13 : 7 + x2 < w7.length) (z14 : at3 ≠ 0) (k : Rn d bc bs mX13_undo 60 [some (vR (some ar0)), some (vI x1), some (vI x2)] [] (up h at3 (cI (w7.set (7 + x2 : Int).toNat v9))) n Q) : Rn d (bc) (bs) mX13_undo 43 [some (vR (some ar0)), some (vI x1), some (vI x2)] [] h n Q := by
  refine Rn_aload_n dX13_undo_43 rfl rfl rfl ?_
  refine Rn_getfield (ci := 13) (k := 0) dX13_undo_44 rfl in_13 (Nat.le_of_ble_eq_true rfl) wd_1352 rfl h2 g4 ?_
  refine Rn_bipush dX13_undo_47 rfl ?_
  refine Rn_iload_n dX13_undo_49 rfl rfl ?_
  refine Rn_iadd dX13_undo_50 ?_
  rw [w32_id b5.1 b5.2]
  refine Rn_aload_n dX13_undo_51 rfl rfl rfl ?_
  refine Rn_getfield (ci := 13) (k := 0) dX13_undo_52 rfl in_13 (Nat.le_of_ble_eq_true rfl) wd_1352 rfl h2 g4 ?_
  refine Rn_iload_n dX13_undo_55 rfl rfl ?_
  refine Rn_iload_n dX13_undo_56 rfl rfl ?_
  refine Rn_iadd dX13_undo_57 ?_
  rw [w32_id b6.1 b6.2]
  refine Rn_iaload dX13_undo_58 h8 i10 g11 ?_
  refine Rn_iastore dX13_undo_59 z14 h8 i12 j13 ?_
  exact k
theorem BX13_undo_60 {d bc bs : Nat} {h : aH} {n : Nat} {Q : aQ} {r0 : Option Nat} {x1 x2 : Int} (b1 : -2147483648 ≤ x2 + 1 ∧ x2 + 1 < 2147483648) (k : Rn d bc bs mX13_undo 37 [some (vR r0), some (vI x1), some (vI (x2 + 1))] [] h n Q) : Rn d (bc) (bs) mX13_undo 60 [some (vR r0), some (vI x1), some (vI x2)] [] h n Q := by
  refine Rn_iinc dX13_undo_60 rfl (Nat.le_of_ble_eq_true rfl) rfl rfl rfl ?_
  rw [w32_id b1.1 b1.2]
  refine Rn_goto (tgt := 37) dX13_undo_63 rfl ?_
  exact k
theorem BX13_undo_66 {d bc bs : Nat} {h : aH} {n : Nat} {Q : aQ} {r0 : Option Nat} {x1 x2 : Int} (k : Rn d bc bs mX13_undo 68 [some (vR r0), some (vI x1), some (vI 0)] [] h n Q) : Rn d (bc) (bs) mX13_undo 66 [some (vR r0), some (vI x1), some (vI x2)] [] h n Q := by
  refine Rn_iconst dX13_undo_66 rfl ?_
  refine Rn_istore_n dX13_undo_67 rfl (Nat.le_of_ble_eq_true rfl) rfl rfl ?_
  exact k
theorem BX13_undo_68 {d bc bs : Nat} {h : aH} {n : Nat} {Q : aQ} {r0 : Option Nat} {x1 x2 : Int} (kt : 30 ≤ x2 → Rn d bc bs mX13_undo 101 [some (vR r0), some (vI x1), some (vI x2)] [] h n Q) (kf : x2 < 30 → Rn d bc bs mX13_undo 74 [some (vR r0), some (vI x1), some (vI x2)] [] h n Q) : Rn d (bc) (bs) mX13_undo 68 [some (vR r0), some (vI x1), some (vI x2)] [] h n Q := by
  refine Rn_iload_n dX13_undo_68 rfl rfl ?_
  refine Rn_bipush dX13_undo_69 rfl ?_
  refine Rn_icmpge (tgt := 101) dX13_undo_71 rfl ?_ ?_
  · exact kt
  · exact kf
theorem BX13_undo_74 {d bc bs : Nat} {h : aH} {n : Nat} {Q : aQ} {ar0 at3 : Nat} {x1 x2 v10 : Int} {f1 : List aV} {w8 : List Int} (h2 : h ar0 = cO 13 f1) (g4 : f1[0]? = some (vR (some at3))) (b5 : -2147483648 ≤ 3359 + x2 ∧ 3359 + x2 < 2147483648) (b6 : -2147483648 ≤ x1 + 76 ∧ x1 + 76 < 2147483648) (b7 : -2147483648 ≤ (x1 + 76) + x2 ∧ (x1 + 76) + x2 < 2147483648) (h9 : h at3 = cI w8) (i11 : 0 ≤ (x1 + 76) + x2) (g12 : w8[((x1 + 76) + x2 : Int).toNat]? = some v10) (i13 : 0 ≤ 3359 + x2) (j14 : 3359 + x2 < w8.length) (z15 : at3 ≠ 0) (k : Rn d bc bs mX13_undo 95 [some (vR (some ar0)), some (vI x1), some (vI x2)] [] (up h at3 (cI (w8.set (3359 + x2 : Int).toNat v10))) n Q) : Rn d (bc) (bs) mX13_undo 74 [some (vR (some ar0)), some (vI x1), some (vI x2)] [] h n Q := by
  refine Rn_aload_n dX13_undo_74 rfl rfl rfl ?_
  refine Rn_getfield (ci := 13) (k := 0) dX13_undo_75 rfl in_13 (Nat.le_of_ble_eq_true rfl) wd_1352 rfl h2 g4 ?_
  refine Rn_sipush dX13_undo_78 rfl ?_
  refine Rn_iload_n dX13_undo_81 rfl rfl ?_
  refine Rn_iadd dX13_undo_82 ?_
  rw [w32_id b5.1 b5.2]
  refine Rn_aload_n dX13_undo_83 rfl rfl rfl ?_
  refine Rn_getfield (ci := 13) (k := 0) dX13_undo_84 rfl in_13 (Nat.le_of_ble_eq_true rfl) wd_1352 rfl h2 g4 ?_
  refine Rn_iload_n dX13_undo_87 rfl rfl ?_
  refine Rn_bipush dX13_undo_88 rfl ?_
  refine Rn_iadd dX13_undo_90 ?_
  rw [w32_id b6.1 b6.2]
  refine Rn_iload_n dX13_undo_91 rfl rfl ?_
  refine Rn_iadd dX13_undo_92 ?_
  rw [w32_id b7.1 b7.2]
  refine Rn_iaload dX13_undo_93 h9 i11 g12 ?_
  refine Rn_iastore dX13_undo_94 z15 h9 i13 j14 ?_
  exact k
theorem BX13_undo_95 {d bc bs : Nat} {h : aH} {n : Nat} {Q : aQ} {r0 : Option Nat} {x1 x2 : Int} (b1 : -2147483648 ≤ x2 + 1 ∧ x2 + 1 < 2147483648) (k : Rn d bc bs mX13_undo 68 [some (vR r0), some (vI x1), some (vI (x2 + 1))] [] h n Q) : Rn d (bc) (bs) mX13_undo 95 [some (vR r0), some (vI x1), some (vI x2)] [] h n Q := by
  refine Rn_iinc dX13_undo_95 rfl (Nat.le_of_ble_eq_true rfl) rfl rfl rfl ?_
  rw [w32_id b1.1 b1.2]
  refine Rn_goto (tgt := 68) dX13_undo_98 rfl ?_
  exact k
theorem BX13_undo_101 {d bc bs : Nat} {h : aH} {n : Nat} {Q : aQ} {ar0 at3 : Nat} {x1 x2 v7 : Int} {f1 : List aV} {w5 : List Int} (h2 : h ar0 = cO 13 f1) (g4 : f1[0]? = some (vR (some at3))) (h6 : h at3 = cI w5) (g8 : w5[(3 : Int).toNat]? = some v7) (k : Q (some (vI v7)) h n) : Rn d (bc) (bs) mX13_undo 101 [some (vR (some ar0)), some (vI x1), some (vI x2)] [] h n Q := by
  refine Rn_aload_n dX13_undo_101 rfl rfl rfl ?_
  refine Rn_getfield (ci := 13) (k := 0) dX13_undo_102 rfl in_13 (Nat.le_of_ble_eq_true rfl) wd_1352 rfl h2 g4 ?_
  refine Rn_iconst dX13_undo_105 rfl ?_
  refine Rn_iaload dX13_undo_106 h6 (by decide) g8 ?_
  exact Rn_ireturn rfl dX13_undo_107 k
