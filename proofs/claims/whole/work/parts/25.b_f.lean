theorem dX12_about_0 : decode cX12_about 0 = .ok (.iload_n 1, 1) := by decide +kernel
theorem dX12_about_1 : decode cX12_about 1 = .ok (.tableswitch 126 0 7 #[47, 58, 66, 74, 85, 96, 107, 118], 47) := by decide +kernel
theorem dX12_about_48 : decode cX12_about 48 = .ok (.aload_n 0, 1) := by decide +kernel
theorem dX12_about_49 : decode cX12_about 49 = .ok (.getfield 10, 3) := by decide +kernel
theorem dX12_about_52 : decode cX12_about 52 = .ok (.getfield 68, 3) := by decide +kernel
theorem dX12_about_55 : decode cX12_about 55 = .ok (.getfield 216, 3) := by decide +kernel
theorem dX12_about_58 : decode cX12_about 58 = .ok (.ireturn, 1) := by decide +kernel
theorem dX12_about_59 : decode cX12_about 59 = .ok (.aload_n 0, 1) := by decide +kernel
theorem dX12_about_60 : decode cX12_about 60 = .ok (.getfield 10, 3) := by decide +kernel
theorem dX12_about_63 : decode cX12_about 63 = .ok (.getfield 96, 3) := by decide +kernel
theorem dX12_about_66 : decode cX12_about 66 = .ok (.ireturn, 1) := by decide +kernel
theorem dX12_about_67 : decode cX12_about 67 = .ok (.aload_n 0, 1) := by decide +kernel
theorem dX12_about_68 : decode cX12_about 68 = .ok (.getfield 10, 3) := by decide +kernel
theorem dX12_about_71 : decode cX12_about 71 = .ok (.getfield 113, 3) := by decide +kernel
theorem dX12_about_74 : decode cX12_about 74 = .ok (.ireturn, 1) := by decide +kernel
theorem dX12_about_75 : decode cX12_about 75 = .ok (.aload_n 0, 1) := by decide +kernel
theorem dX12_about_76 : decode cX12_about 76 = .ok (.getfield 10, 3) := by decide +kernel
theorem dX12_about_79 : decode cX12_about 79 = .ok (.getfield 152, 3) := by decide +kernel
theorem dX12_about_82 : decode cX12_about 82 = .ok (.getfield 260, 3) := by decide +kernel
theorem dX12_about_85 : decode cX12_about 85 = .ok (.ireturn, 1) := by decide +kernel
theorem dX12_about_86 : decode cX12_about 86 = .ok (.aload_n 0, 1) := by decide +kernel
theorem dX12_about_87 : decode cX12_about 87 = .ok (.getfield 10, 3) := by decide +kernel
theorem dX12_about_90 : decode cX12_about 90 = .ok (.getfield 263, 3) := by decide +kernel
theorem dX12_about_93 : decode cX12_about 93 = .ok (.getfield 267, 3) := by decide +kernel
theorem dX12_about_96 : decode cX12_about 96 = .ok (.ireturn, 1) := by decide +kernel
theorem dX12_about_97 : decode cX12_about 97 = .ok (.aload_n 0, 1) := by decide +kernel
theorem dX12_about_98 : decode cX12_about 98 = .ok (.getfield 10, 3) := by decide +kernel
theorem dX12_about_101 : decode cX12_about 101 = .ok (.getfield 263, 3) := by decide +kernel
theorem dX12_about_104 : decode cX12_about 104 = .ok (.getfield 272, 3) := by decide +kernel
theorem dX12_about_107 : decode cX12_about 107 = .ok (.ireturn, 1) := by decide +kernel
theorem dX12_about_108 : decode cX12_about 108 = .ok (.aload_n 0, 1) := by decide +kernel
theorem dX12_about_109 : decode cX12_about 109 = .ok (.getfield 10, 3) := by decide +kernel
theorem dX12_about_112 : decode cX12_about 112 = .ok (.getfield 263, 3) := by decide +kernel
theorem dX12_about_115 : decode cX12_about 115 = .ok (.getfield 275, 3) := by decide +kernel
theorem dX12_about_118 : decode cX12_about 118 = .ok (.ireturn, 1) := by decide +kernel
theorem dX12_about_119 : decode cX12_about 119 = .ok (.aload_n 0, 1) := by decide +kernel
theorem dX12_about_120 : decode cX12_about 120 = .ok (.getfield 22, 3) := by decide +kernel
theorem dX12_about_123 : decode cX12_about 123 = .ok (.getfield 90, 3) := by decide +kernel
theorem dX12_about_126 : decode cX12_about 126 = .ok (.ireturn, 1) := by decide +kernel
theorem dX12_about_127 : decode cX12_about 127 = .ok (.bipush (-2), 2) := by decide +kernel
theorem dX12_about_129 : decode cX12_about 129 = .ok (.ireturn, 1) := by decide +kernel
theorem BX12_about_0 {d bc bs : Nat} {h : aH} {n : Nat} {Q : aQ} {r0 : Option Nat} {x1 : Int} (kd : (x1 < 0 ∨ 7 < x1) → Rn d bc bs mX12_about 127 [some (vR r0), some (vI x1)] [] h n Q) (k0 : x1 = 0 → Rn d bc bs mX12_about 48 [some (vR r0), some (vI x1)] [] h n Q) (k1 : x1 = 1 → Rn d bc bs mX12_about 59 [some (vR r0), some (vI x1)] [] h n Q) (k2 : x1 = 2 → Rn d bc bs mX12_about 67 [some (vR r0), some (vI x1)] [] h n Q) (k3 : x1 = 3 → Rn d bc bs mX12_about 75 [some (vR r0), some (vI x1)] [] h n Q) (k4 : x1 = 4 → Rn d bc bs mX12_about 86 [some (vR r0), some (vI x1)] [] h n Q) (k5 : x1 = 5 → Rn d bc bs mX12_about 97 [some (vR r0), some (vI x1)] [] h n Q) (k6 : x1 = 6 → Rn d bc bs mX12_about 108 [some (vR r0), some (vI x1)] [] h n Q) (k7 : x1 = 7 → Rn d bc bs mX12_about 119 [some (vR r0), some (vI x1)] [] h n Q) : Rn d (bc) (bs) mX12_about 0 [some (vR r0), some (vI x1)] [] h n Q := by
  refine Rn_iload_n dX12_about_0 rfl rfl ?_
  by_cases hq : x1 < 0 ∨ 7 < x1
  · exact Rn_tableOut (tgt := 127) dX12_about_1 hq rfl (kd hq)
  rcases (show x1 = 0 ∨ x1 = 1 ∨ x1 = 2 ∨ x1 = 3 ∨ x1 = 4 ∨ x1 = 5 ∨ x1 = 6 ∨ x1 = 7 by omega) with hz | hz | hz | hz | hz | hz | hz | hz
  · exact Rn_tableIn (tgt := 48) dX12_about_1 (by omega) (by omega) (by rw [hz] <;> rfl) rfl (k0 hz)
  · exact Rn_tableIn (tgt := 59) dX12_about_1 (by omega) (by omega) (by rw [hz] <;> rfl) rfl (k1 hz)
  · exact Rn_tableIn (tgt := 67) dX12_about_1 (by omega) (by omega) (by rw [hz] <;> rfl) rfl (k2 hz)
  · exact Rn_tableIn (tgt := 75) dX12_about_1 (by omega) (by omega) (by rw [hz] <;> rfl) rfl (k3 hz)
  · exact Rn_tableIn (tgt := 86) dX12_about_1 (by omega) (by omega) (by rw [hz] <;> rfl) rfl (k4 hz)
  · exact Rn_tableIn (tgt := 97) dX12_about_1 (by omega) (by omega) (by rw [hz] <;> rfl) rfl (k5 hz)
  · exact Rn_tableIn (tgt := 108) dX12_about_1 (by omega) (by omega) (by rw [hz] <;> rfl) rfl (k6 hz)
  · exact Rn_tableIn (tgt := 119) dX12_about_1 (by omega) (by omega) (by rw [hz] <;> rfl) rfl (k7 hz)
theorem BX12_about_48 {d bc bs : Nat} {h : aH} {n : Nat} {Q : aQ} {ar0 at3 at7 : Nat} {x1 v11 : Int} {f1 f5 f9 : List aV} (h2 : h ar0 = cO 12 f1) (g4 : f1[0]? = some (vR (some at3))) (h6 : h at3 = cO 11 f5) (g8 : f5[0]? = some (vR (some at7))) (h10 : h at7 = cO 7 f9) (g12 : f9[3]? = some (vI v11)) (k : Q (some (vI v11)) h n) : Rn d (bc) (bs) mX12_about 48 [some (vR (some ar0)), some (vI x1)] [] h n Q := by
  refine Rn_aload_n dX12_about_48 rfl rfl rfl ?_
  refine Rn_getfield (ci := 12) (k := 0) dX12_about_49 rfl in_12 (Nat.le_of_ble_eq_true rfl) wd_460 rfl h2 g4 ?_
  refine Rn_getfield (ci := 11) (k := 0) dX12_about_52 rfl in_11 (Nat.le_of_ble_eq_true rfl) wd_293 rfl h6 g8 ?_
  refine Rn_getfield (ci := 7) (k := 3) dX12_about_55 rfl in_7 (Nat.le_of_ble_eq_true rfl) wd_171 rfl h10 g12 ?_
  exact Rn_ireturn rfl dX12_about_58 k
theorem BX12_about_59 {d bc bs : Nat} {h : aH} {n : Nat} {Q : aQ} {ar0 at3 : Nat} {x1 v7 : Int} {f1 f5 : List aV} (h2 : h ar0 = cO 12 f1) (g4 : f1[0]? = some (vR (some at3))) (h6 : h at3 = cO 11 f5) (g8 : f5[5]? = some (vI v7)) (k : Q (some (vI v7)) h n) : Rn d (bc) (bs) mX12_about 59 [some (vR (some ar0)), some (vI x1)] [] h n Q := by
  refine Rn_aload_n dX12_about_59 rfl rfl rfl ?_
  refine Rn_getfield (ci := 12) (k := 0) dX12_about_60 rfl in_12 (Nat.le_of_ble_eq_true rfl) wd_460 rfl h2 g4 ?_
  refine Rn_getfield (ci := 11) (k := 5) dX12_about_63 rfl in_11 (Nat.le_of_ble_eq_true rfl) wd_302 rfl h6 g8 ?_
  exact Rn_ireturn rfl dX12_about_66 k
theorem BX12_about_67 {d bc bs : Nat} {h : aH} {n : Nat} {Q : aQ} {ar0 at3 : Nat} {x1 v7 : Int} {f1 f5 : List aV} (h2 : h ar0 = cO 12 f1) (g4 : f1[0]? = some (vR (some at3))) (h6 : h at3 = cO 11 f5) (g8 : f5[6]? = some (vI v7)) (k : Q (some (vI v7)) h n) : Rn d (bc) (bs) mX12_about 67 [some (vR (some ar0)), some (vI x1)] [] h n Q := by
  refine Rn_aload_n dX12_about_67 rfl rfl rfl ?_
  refine Rn_getfield (ci := 12) (k := 0) dX12_about_68 rfl in_12 (Nat.le_of_ble_eq_true rfl) wd_460 rfl h2 g4 ?_
  refine Rn_getfield (ci := 11) (k := 6) dX12_about_71 rfl in_11 (Nat.le_of_ble_eq_true rfl) wd_304 rfl h6 g8 ?_
  exact Rn_ireturn rfl dX12_about_74 k
theorem BX12_about_75 {d bc bs : Nat} {h : aH} {n : Nat} {Q : aQ} {ar0 at3 at7 : Nat} {x1 v11 : Int} {f1 f5 f9 : List aV} (h2 : h ar0 = cO 12 f1) (g4 : f1[0]? = some (vR (some at3))) (h6 : h at3 = cO 11 f5) (g8 : f5[2]? = some (vR (some at7))) (h10 : h at7 = cO 8 f9) (g12 : f9[1]? = some (vI v11)) (k : Q (some (vI v11)) h n) : Rn d (bc) (bs) mX12_about 75 [some (vR (some ar0)), some (vI x1)] [] h n Q := by
  refine Rn_aload_n dX12_about_75 rfl rfl rfl ?_
  refine Rn_getfield (ci := 12) (k := 0) dX12_about_76 rfl in_12 (Nat.le_of_ble_eq_true rfl) wd_460 rfl h2 g4 ?_
  refine Rn_getfield (ci := 11) (k := 2) dX12_about_79 rfl in_11 (Nat.le_of_ble_eq_true rfl) wd_297 rfl h6 g8 ?_
  refine Rn_getfield (ci := 8) (k := 1) dX12_about_82 rfl in_8 (Nat.le_of_ble_eq_true rfl) wd_235 rfl h10 g12 ?_
  exact Rn_ireturn rfl dX12_about_85 k
theorem BX12_about_86 {d bc bs : Nat} {h : aH} {n : Nat} {Q : aQ} {ar0 at3 at7 : Nat} {x1 v11 : Int} {f1 f5 f9 : List aV} (h2 : h ar0 = cO 12 f1) (g4 : f1[0]? = some (vR (some at3))) (h6 : h at3 = cO 11 f5) (g8 : f5[3]? = some (vR (some at7))) (h10 : h at7 = cO 5 f9) (g12 : f9[7]? = some (vI v11)) (k : Q (some (vI v11)) h n) : Rn d (bc) (bs) mX12_about 86 [some (vR (some ar0)), some (vI x1)] [] h n Q := by
  refine Rn_aload_n dX12_about_86 rfl rfl rfl ?_
  refine Rn_getfield (ci := 12) (k := 0) dX12_about_87 rfl in_12 (Nat.le_of_ble_eq_true rfl) wd_460 rfl h2 g4 ?_
  refine Rn_getfield (ci := 11) (k := 3) dX12_about_90 rfl in_11 (Nat.le_of_ble_eq_true rfl) wd_299 rfl h6 g8 ?_
  refine Rn_getfield (ci := 5) (k := 7) dX12_about_93 rfl in_5 (Nat.le_of_ble_eq_true rfl) wd_255 rfl h10 g12 ?_
  exact Rn_ireturn rfl dX12_about_96 k
theorem BX12_about_97 {d bc bs : Nat} {h : aH} {n : Nat} {Q : aQ} {ar0 at3 at7 : Nat} {x1 v11 : Int} {f1 f5 f9 : List aV} (h2 : h ar0 = cO 12 f1) (g4 : f1[0]? = some (vR (some at3))) (h6 : h at3 = cO 11 f5) (g8 : f5[3]? = some (vR (some at7))) (h10 : h at7 = cO 5 f9) (g12 : f9[8]? = some (vI v11)) (k : Q (some (vI v11)) h n) : Rn d (bc) (bs) mX12_about 97 [some (vR (some ar0)), some (vI x1)] [] h n Q := by
  refine Rn_aload_n dX12_about_97 rfl rfl rfl ?_
  refine Rn_getfield (ci := 12) (k := 0) dX12_about_98 rfl in_12 (Nat.le_of_ble_eq_true rfl) wd_460 rfl h2 g4 ?_
  refine Rn_getfield (ci := 11) (k := 3) dX12_about_101 rfl in_11 (Nat.le_of_ble_eq_true rfl) wd_299 rfl h6 g8 ?_
  refine Rn_getfield (ci := 5) (k := 8) dX12_about_104 rfl in_5 (Nat.le_of_ble_eq_true rfl) wd_258 rfl h10 g12 ?_
  exact Rn_ireturn rfl dX12_about_107 k
theorem BX12_about_108 {d bc bs : Nat} {h : aH} {n : Nat} {Q : aQ} {ar0 at3 at7 : Nat} {x1 v11 : Int} {f1 f5 f9 : List aV} (h2 : h ar0 = cO 12 f1) (g4 : f1[0]? = some (vR (some at3))) (h6 : h at3 = cO 11 f5) (g8 : f5[3]? = some (vR (some at7))) (h10 : h at7 = cO 5 f9) (g12 : f9[9]? = some (vI v11)) (k : Q (some (vI v11)) h n) : Rn d (bc) (bs) mX12_about 108 [some (vR (some ar0)), some (vI x1)] [] h n Q := by
  refine Rn_aload_n dX12_about_108 rfl rfl rfl ?_
  refine Rn_getfield (ci := 12) (k := 0) dX12_about_109 rfl in_12 (Nat.le_of_ble_eq_true rfl) wd_460 rfl h2 g4 ?_
  refine Rn_getfield (ci := 11) (k := 3) dX12_about_112 rfl in_11 (Nat.le_of_ble_eq_true rfl) wd_299 rfl h6 g8 ?_
  refine Rn_getfield (ci := 5) (k := 9) dX12_about_115 rfl in_5 (Nat.le_of_ble_eq_true rfl) wd_260 rfl h10 g12 ?_
  exact Rn_ireturn rfl dX12_about_118 k
theorem BX12_about_119 {d bc bs : Nat} {h : aH} {n : Nat} {Q : aQ} {ar0 at3 : Nat} {x1 v7 : Int} {f1 f5 : List aV} (h2 : h ar0 = cO 12 f1) (g4 : f1[2]? = some (vR (some at3))) (h6 : h at3 = cO 9 f5) (g8 : f5[1]? = some (vI v7)) (k : Q (some (vI v7)) h n) : Rn d (bc) (bs) mX12_about 119 [some (vR (some ar0)), some (vI x1)] [] h n Q := by
  refine Rn_aload_n dX12_about_119 rfl rfl rfl ?_
  refine Rn_getfield (ci := 12) (k := 2) dX12_about_120 rfl in_12 (Nat.le_of_ble_eq_true rfl) wd_462 rfl h2 g4 ?_
  refine Rn_getfield (ci := 9) (k := 1) dX12_about_123 rfl in_9 (Nat.le_of_ble_eq_true rfl) wd_328 rfl h6 g8 ?_
  exact Rn_ireturn rfl dX12_about_126 k
theorem BX12_about_127 {d bc bs : Nat} {h : aH} {n : Nat} {Q : aQ} {r0 : Option Nat} {x1 : Int} (k : Q (some (vI (-2))) h n) : Rn d (bc) (bs) mX12_about 127 [some (vR r0), some (vI x1)] [] h n Q := by
  refine Rn_bipush dX12_about_127 rfl ?_
  exact Rn_ireturn rfl dX12_about_129 k
theorem dX12_foretold_0 : decode cX12_foretold 0 = .ok (.iload_n 1, 1) := by decide +kernel
theorem dX12_foretold_1 : decode cX12_foretold 1 = .ok (.iconst 1, 1) := by decide +kernel
theorem dX12_foretold_2 : decode cX12_foretold 2 = .ok (.bipush 60, 2) := by decide +kernel
theorem dX12_foretold_4 : decode cX12_foretold 4 = .ok (.invokestatic 93, 3) := by decide +kernel
theorem dX12_foretold_7 : decode cX12_foretold 7 = .ok (.ifCond .eq 26, 3) := by decide +kernel
theorem dX12_foretold_10 : decode cX12_foretold 10 = .ok (.aload_n 0, 1) := by decide +kernel
theorem dX12_foretold_11 : decode cX12_foretold 11 = .ok (.getfield 10, 3) := by decide +kernel
theorem dX12_foretold_14 : decode cX12_foretold 14 = .ok (.getfield 128, 3) := by decide +kernel
theorem dX12_foretold_17 : decode cX12_foretold 17 = .ok (.iload_n 2, 1) := by decide +kernel
theorem dX12_foretold_18 : decode cX12_foretold 18 = .ok (.invokevirtual 202, 3) := by decide +kernel
theorem dX12_foretold_21 : decode cX12_foretold 21 = .ok (.ifCond .eq 12, 3) := by decide +kernel
theorem dX12_foretold_24 : decode cX12_foretold 24 = .ok (.iload_n 3, 1) := by decide +kernel
theorem dX12_foretold_25 : decode cX12_foretold 25 = .ok (.iconst 0, 1) := by decide +kernel
theorem dX12_foretold_26 : decode cX12_foretold 26 = .ok (.iconst 2, 1) := by decide +kernel
theorem dX12_foretold_27 : decode cX12_foretold 27 = .ok (.invokestatic 93, 3) := by decide +kernel
theorem dX12_foretold_30 : decode cX12_foretold 30 = .ok (.ifCond .ne 5, 3) := by decide +kernel
theorem dX12_foretold_33 : decode cX12_foretold 33 = .ok (.iconst (-1), 1) := by decide +kernel
theorem dX12_foretold_34 : decode cX12_foretold 34 = .ok (.ireturn, 1) := by decide +kernel
theorem dX12_foretold_35 : decode cX12_foretold 35 = .ok (.aload_n 0, 1) := by decide +kernel
theorem dX12_foretold_36 : decode cX12_foretold 36 = .ok (.getfield 57, 3) := by decide +kernel
theorem dX12_foretold_39 : decode cX12_foretold 39 = .ok (.aload_n 0, 1) := by decide +kernel
theorem dX12_foretold_40 : decode cX12_foretold 40 = .ok (.getfield 10, 3) := by decide +kernel
theorem dX12_foretold_43 : decode cX12_foretold 43 = .ok (.getfield 128, 3) := by decide +kernel
theorem dX12_foretold_46 : decode cX12_foretold 46 = .ok (.invokevirtual 278, 3) := by decide +kernel
theorem dX12_foretold_49 : decode cX12_foretold 49 = .ok (.iconst 0, 1) := by decide +kernel
theorem dX12_foretold_50 : decode cX12_foretold 50 = .ok (.istore 4, 2) := by decide +kernel
theorem dX12_foretold_52 : decode cX12_foretold 52 = .ok (.iload 4, 2) := by decide +kernel
theorem dX12_foretold_54 : decode cX12_foretold 54 = .ok (.iload_n 1, 1) := by decide +kernel
theorem dX12_foretold_55 : decode cX12_foretold 55 = .ok (.if_icmp .ge 48, 3) := by decide +kernel
theorem dX12_foretold_58 : decode cX12_foretold 58 = .ok (.aload_n 0, 1) := by decide +kernel
theorem dX12_foretold_59 : decode cX12_foretold 59 = .ok (.getfield 57, 3) := by decide +kernel
theorem dX12_foretold_62 : decode cX12_foretold 62 = .ok (.getfield 131, 3) := by decide +kernel
theorem dX12_foretold_65 : decode cX12_foretold 65 = .ok (.sipush 9999, 3) := by decide +kernel
theorem dX12_foretold_68 : decode cX12_foretold 68 = .ok (.if_icmp .ge 35, 3) := by decide +kernel
theorem dX12_foretold_71 : decode cX12_foretold 71 = .ok (.aload_n 0, 1) := by decide +kernel
theorem dX12_foretold_72 : decode cX12_foretold 72 = .ok (.getfield 36, 3) := by decide +kernel
theorem dX12_foretold_75 : decode cX12_foretold 75 = .ok (.aload_n 0, 1) := by decide +kernel
theorem dX12_foretold_76 : decode cX12_foretold 76 = .ok (.getfield 57, 3) := by decide +kernel
theorem dX12_foretold_79 : decode cX12_foretold 79 = .ok (.aload_n 0, 1) := by decide +kernel
theorem dX12_foretold_80 : decode cX12_foretold 80 = .ok (.getfield 10, 3) := by decide +kernel
theorem dX12_foretold_83 : decode cX12_foretold 83 = .ok (.getfield 68, 3) := by decide +kernel
theorem dX12_foretold_86 : decode cX12_foretold 86 = .ok (.aload_n 0, 1) := by decide +kernel
theorem dX12_foretold_87 : decode cX12_foretold 87 = .ok (.getfield 10, 3) := by decide +kernel
theorem dX12_foretold_90 : decode cX12_foretold 90 = .ok (.invokevirtual 205, 3) := by decide +kernel
theorem dX12_foretold_93 : decode cX12_foretold 93 = .ok (.invokevirtual 209, 3) := by decide +kernel
theorem dX12_foretold_96 : decode cX12_foretold 96 = .ok (.pop, 1) := by decide +kernel
theorem dX12_foretold_97 : decode cX12_foretold 97 = .ok (.iinc 4 1, 3) := by decide +kernel
theorem dX12_foretold_100 : decode cX12_foretold 100 = .ok (.goto (-48), 3) := by decide +kernel
theorem dX12_foretold_103 : decode cX12_foretold 103 = .ok (.aload_n 0, 1) := by decide +kernel
theorem dX12_foretold_104 : decode cX12_foretold 104 = .ok (.getfield 57, 3) := by decide +kernel
theorem dX12_foretold_107 : decode cX12_foretold 107 = .ok (.iload_n 2, 1) := by decide +kernel
theorem dX12_foretold_108 : decode cX12_foretold 108 = .ok (.iconst 2, 1) := by decide +kernel
theorem dX12_foretold_109 : decode cX12_foretold 109 = .ok (.iload_n 3, 1) := by decide +kernel
theorem dX12_foretold_110 : decode cX12_foretold 110 = .ok (.iadd, 1) := by decide +kernel
theorem dX12_foretold_111 : decode cX12_foretold 111 = .ok (.invokevirtual 191, 3) := by decide +kernel
theorem dX12_foretold_114 : decode cX12_foretold 114 = .ok (.ireturn, 1) := by decide +kernel
theorem BX12_foretold_0 {d bc bs : Nat} {h : aH} {n : Nat} {Q : aQ} {r0 : Option Nat} {x1 x2 x3 : Int} {l4 : Option aV} (k : Rn d 0 0 mX12_within 0 [some (vI x1), some (vI 1), some (vI 60)] [] h n (fun v h1 n1 => Rn (d + 1) bc bs mX12_foretold 7 [some (vR r0), some (vI x1), some (vI x2), some (vI x3), l4] (v.toList ++ []) h1 n1 Q)) : Rn (d + 1) (bc) (bs) mX12_foretold 0 [some (vR r0), some (vI x1), some (vI x2), some (vI x3), l4] [] h n Q := by
  refine Rn_iload_n dX12_foretold_0 rfl rfl ?_
  refine Rn_iconst dX12_foretold_1 rfl ?_
  refine Rn_bipush dX12_foretold_2 rfl ?_
  exact Rn_callS (avs := [vI x1, vI 1, vI 60]) (st := []) (bc1 := 0) (bs1 := 0) (bc2 := bc) (bs2 := bs) fx_X12_within dX12_foretold_4 (Or.inl wd_502) wd_503 rfl (Nat.le_of_ble_eq_true rfl) (Nat.le_of_ble_eq_true rfl) (by omega) (by omega) (ls1 := [some (vI x1), some (vI 1), some (vI 60)]) rfl k
theorem BX12_foretold_7 {d bc bs : Nat} {h : aH} {n : Nat} {Q : aQ} {r0 : Option Nat} {x1 x2 x3 s0 : Int} {l4 : Option aV} (kt : s0 = 0 → Rn d bc bs mX12_foretold 33 [some (vR r0), some (vI x1), some (vI x2), some (vI x3), l4] [] h n Q) (kf : s0 ≠ 0 → Rn d bc bs mX12_foretold 10 [some (vR r0), some (vI x1), some (vI x2), some (vI x3), l4] [] h n Q) : Rn d (bc) (bs) mX12_foretold 7 [some (vR r0), some (vI x1), some (vI x2), some (vI x3), l4] [vI s0] h n Q := by
  refine Rn_ifeq (tgt := 33) dX12_foretold_7 rfl ?_ ?_
  · exact kt
  · exact kf
theorem BX12_foretold_10 {d bc bs : Nat} {h : aH} {n : Nat} {Q : aQ} {ar0 at3 at7 : Nat} {x1 x2 x3 : Int} {l4 : Option aV} {f1 f5 f9 : List aV} (h2 : h ar0 = cO 12 f1) (g4 : f1[0]? = some (vR (some at3))) (h6 : h at3 = cO 11 f5) (g8 : f5[1]? = some (vR (some at7))) (h10 : h at7 = cO 6 f9) (k : Rn d 0 0 mX6_hasBottle 0 [some (vR (some at7)), some (vI x2)] [] h n (fun v h1 n1 => Rn (d + 1) bc bs mX12_foretold 21 [some (vR (some ar0)), some (vI x1), some (vI x2), some (vI x3), l4] (v.toList ++ []) h1 n1 Q)) : Rn (d + 1) (bc) (bs) mX12_foretold 10 [some (vR (some ar0)), some (vI x1), some (vI x2), some (vI x3), l4] [] h n Q := by
  refine Rn_aload_n dX12_foretold_10 rfl rfl rfl ?_
  refine Rn_getfield (ci := 12) (k := 0) dX12_foretold_11 rfl in_12 (Nat.le_of_ble_eq_true rfl) wd_460 rfl h2 g4 ?_
  refine Rn_getfield (ci := 11) (k := 1) dX12_foretold_14 rfl in_11 (Nat.le_of_ble_eq_true rfl) wd_295 rfl h6 g8 ?_
  refine Rn_iload_n dX12_foretold_17 rfl rfl ?_
  exact Rn_callV (ci := 6) (avs := [vI x2]) (st := []) (bc1 := 0) (bs1 := 0) (bc2 := bc) (bs2 := bs) fx_X6_hasBottle dX12_foretold_18 wd_862 wd_836 wd_837 rfl h10 rfl (Nat.le_of_ble_eq_true rfl) (Nat.le_of_ble_eq_true rfl) (by omega) (by omega) (ls1 := [some (vR (some at7)), some (vI x2)]) rfl k
theorem BX12_foretold_21 {d bc bs : Nat} {h : aH} {n : Nat} {Q : aQ} {r0 : Option Nat} {x1 x2 x3 s0 : Int} {l4 : Option aV} (kt : s0 = 0 → Rn d bc bs mX12_foretold 33 [some (vR r0), some (vI x1), some (vI x2), some (vI x3), l4] [] h n Q) (kf : s0 ≠ 0 → Rn d bc bs mX12_foretold 24 [some (vR r0), some (vI x1), some (vI x2), some (vI x3), l4] [] h n Q) : Rn d (bc) (bs) mX12_foretold 21 [some (vR r0), some (vI x1), some (vI x2), some (vI x3), l4] [vI s0] h n Q := by
  refine Rn_ifeq (tgt := 33) dX12_foretold_21 rfl ?_ ?_
  · exact kt
  · exact kf
theorem BX12_foretold_24 {d bc bs : Nat} {h : aH} {n : Nat} {Q : aQ} {r0 : Option Nat} {x1 x2 x3 : Int} {l4 : Option aV} (k : Rn d 0 0 mX12_within 0 [some (vI x3), some (vI 0), some (vI 2)] [] h n (fun v h1 n1 => Rn (d + 1) bc bs mX12_foretold 30 [some (vR r0), some (vI x1), some (vI x2), some (vI x3), l4] (v.toList ++ []) h1 n1 Q)) : Rn (d + 1) (bc) (bs) mX12_foretold 24 [some (vR r0), some (vI x1), some (vI x2), some (vI x3), l4] [] h n Q := by
  refine Rn_iload_n dX12_foretold_24 rfl rfl ?_
  refine Rn_iconst dX12_foretold_25 rfl ?_
  refine Rn_iconst dX12_foretold_26 rfl ?_
  exact Rn_callS (avs := [vI x3, vI 0, vI 2]) (st := []) (bc1 := 0) (bs1 := 0) (bc2 := bc) (bs2 := bs) fx_X12_within dX12_foretold_27 (Or.inl wd_502) wd_503 rfl (Nat.le_of_ble_eq_true rfl) (Nat.le_of_ble_eq_true rfl) (by omega) (by omega) (ls1 := [some (vI x3), some (vI 0), some (vI 2)]) rfl k
theorem BX12_foretold_30 {d bc bs : Nat} {h : aH} {n : Nat} {Q : aQ} {r0 : Option Nat} {x1 x2 x3 s0 : Int} {l4 : Option aV} (kt : s0 ≠ 0 → Rn d bc bs mX12_foretold 35 [some (vR r0), some (vI x1), some (vI x2), some (vI x3), l4] [] h n Q) (kf : s0 = 0 → Rn d bc bs mX12_foretold 33 [some (vR r0), some (vI x1), some (vI x2), some (vI x3), l4] [] h n Q) : Rn d (bc) (bs) mX12_foretold 30 [some (vR r0), some (vI x1), some (vI x2), some (vI x3), l4] [vI s0] h n Q := by
  refine Rn_ifne (tgt := 35) dX12_foretold_30 rfl ?_ ?_
  · exact kt
  · exact kf
theorem BX12_foretold_33 {d bc bs : Nat} {h : aH} {n : Nat} {Q : aQ} {r0 : Option Nat} {x1 x2 x3 : Int} {l4 : Option aV} (k : Q (some (vI (-1))) h n) : Rn d (bc) (bs) mX12_foretold 33 [some (vR r0), some (vI x1), some (vI x2), some (vI x3), l4] [] h n Q := by
  refine Rn_iconst dX12_foretold_33 rfl ?_
  exact Rn_ireturn rfl dX12_foretold_34 k
theorem BX12_foretold_35 {d bc bs : Nat} {h : aH} {n : Nat} {Q : aQ} {ar0 at3 at5 : Nat} {x1 x2 x3 : Int} {l4 : Option aV} {f1 f7 f11 : List aV} {t9 : Option Nat} (h2 : h ar0 = cO 12 f1) (g4 : f1[7]? = some (vR (some at3))) (g6 : f1[0]? = some (vR (some at5))) (h8 : h at5 = cO 11 f7) (g10 : f7[1]? = some (vR t9)) (h12 : h at3 = cO 6 f11) (k : Rn d 0 0 mX6_copyFrom 0 [some (vR (some at3)), some (vR t9)] [] h n (fun v h1 n1 => Rn (d + 1) bc bs mX12_foretold 49 [some (vR (some ar0)), some (vI x1), some (vI x2), some (vI x3), l4] (v.toList ++ []) h1 n1 Q)) : Rn (d + 1) (bc) (bs) mX12_foretold 35 [some (vR (some ar0)), some (vI x1), some (vI x2), some (vI x3), l4] [] h n Q := by
  refine Rn_aload_n dX12_foretold_35 rfl rfl rfl ?_
  refine Rn_getfield (ci := 12) (k := 7) dX12_foretold_36 rfl in_12 (Nat.le_of_ble_eq_true rfl) wd_467 rfl h2 g4 ?_
  refine Rn_aload_n dX12_foretold_39 rfl rfl rfl ?_
  refine Rn_getfield (ci := 12) (k := 0) dX12_foretold_40 rfl in_12 (Nat.le_of_ble_eq_true rfl) wd_460 rfl h2 g6 ?_
  refine Rn_getfield (ci := 11) (k := 1) dX12_foretold_43 rfl in_11 (Nat.le_of_ble_eq_true rfl) wd_295 rfl h8 g10 ?_
  exact Rn_callV (ci := 6) (avs := [vR t9]) (st := []) (bc1 := 0) (bs1 := 0) (bc2 := bc) (bs2 := bs) fx_X6_copyFrom dX12_foretold_46 wd_1063 wd_798 wd_799 rfl h12 rfl (Nat.le_of_ble_eq_true rfl) (Nat.le_of_ble_eq_true rfl) (by omega) (by omega) (ls1 := [some (vR (some at3)), some (vR t9)]) rfl k
theorem BX12_foretold_49 {d bc bs : Nat} {h : aH} {n : Nat} {Q : aQ} {r0 : Option Nat} {x1 x2 x3 : Int} {l4 : Option aV} (k : Rn d bc bs mX12_foretold 52 [some (vR r0), some (vI x1), some (vI x2), some (vI x3), some (vI 0)] [] h n Q) : Rn d (bc) (bs) mX12_foretold 49 [some (vR r0), some (vI x1), some (vI x2), some (vI x3), l4] [] h n Q := by
  refine Rn_iconst dX12_foretold_49 rfl ?_
  refine Rn_istore dX12_foretold_50 (Nat.le_of_ble_eq_true rfl) rfl rfl ?_
  exact k
theorem BX12_foretold_52 {d bc bs : Nat} {h : aH} {n : Nat} {Q : aQ} {r0 : Option Nat} {x1 x2 x3 x4 : Int} (kt : x1 ≤ x4 → Rn d bc bs mX12_foretold 103 [some (vR r0), some (vI x1), some (vI x2), some (vI x3), some (vI x4)] [] h n Q) (kf : x4 < x1 → Rn d bc bs mX12_foretold 58 [some (vR r0), some (vI x1), some (vI x2), some (vI x3), some (vI x4)] [] h n Q) : Rn d (bc) (bs) mX12_foretold 52 [some (vR r0), some (vI x1), some (vI x2), some (vI x3), some (vI x4)] [] h n Q := by
  refine Rn_iload dX12_foretold_52 rfl ?_
  refine Rn_iload_n dX12_foretold_54 rfl rfl ?_
  refine Rn_icmpge (tgt := 103) dX12_foretold_55 rfl ?_ ?_
  · exact kt
  · exact kf
theorem BX12_foretold_58 {d bc bs : Nat} {h : aH} {n : Nat} {Q : aQ} {ar0 at3 : Nat} {x1 x2 x3 x4 v7 : Int} {f1 f5 : List aV} (h2 : h ar0 = cO 12 f1) (g4 : f1[7]? = some (vR (some at3))) (h6 : h at3 = cO 6 f5) (g8 : f5[3]? = some (vI v7)) (kt : 9999 ≤ v7 → Rn d bc bs mX12_foretold 103 [some (vR (some ar0)), some (vI x1), some (vI x2), some (vI x3), some (vI x4)] [] h n Q) (kf : v7 < 9999 → Rn d bc bs mX12_foretold 71 [some (vR (some ar0)), some (vI x1), some (vI x2), some (vI x3), some (vI x4)] [] h n Q) : Rn d (bc) (bs) mX12_foretold 58 [some (vR (some ar0)), some (vI x1), some (vI x2), some (vI x3), some (vI x4)] [] h n Q := by
  refine Rn_aload_n dX12_foretold_58 rfl rfl rfl ?_
  refine Rn_getfield (ci := 12) (k := 7) dX12_foretold_59 rfl in_12 (Nat.le_of_ble_eq_true rfl) wd_467 rfl h2 g4 ?_
  refine Rn_getfield (ci := 6) (k := 3) dX12_foretold_62 rfl in_6 (Nat.le_of_ble_eq_true rfl) wd_210 rfl h6 g8 ?_
  refine Rn_sipush dX12_foretold_65 rfl ?_
  refine Rn_icmpge (tgt := 103) dX12_foretold_68 rfl ?_ ?_
  · exact kt
  · exact kf
theorem BX12_foretold_71 {d bc bs : Nat} {h : aH} {n : Nat} {Q : aQ} {ar0 at7 : Nat} {x1 x2 x3 x4 : Int} {f1 f9 : List aV} {t3 t5 t11 : Option Nat} (h2 : h ar0 = cO 12 f1) (g4 : f1[4]? = some (vR t3)) (g6 : f1[7]? = some (vR t5)) (g8 : f1[0]? = some (vR (some at7))) (h10 : h at7 = cO 11 f9) (g12 : f9[0]? = some (vR t11)) (k : Rn d 0 0 mX11_rules 0 [some (vR (some at7))] [] h n (fun v h1 n1 => Rn (d + 1) bc bs mX12_foretold 93 [some (vR (some ar0)), some (vI x1), some (vI x2), some (vI x3), some (vI x4)] (v.toList ++ [vR t11, vR t5, vR t3]) h1 n1 Q)) : Rn (d + 1) (bc) (bs) mX12_foretold 71 [some (vR (some ar0)), some (vI x1), some (vI x2), some (vI x3), some (vI x4)] [] h n Q := by
  refine Rn_aload_n dX12_foretold_71 rfl rfl rfl ?_
  refine Rn_getfield (ci := 12) (k := 4) dX12_foretold_72 rfl in_12 (Nat.le_of_ble_eq_true rfl) wd_464 rfl h2 g4 ?_
  refine Rn_aload_n dX12_foretold_75 rfl rfl rfl ?_
  refine Rn_getfield (ci := 12) (k := 7) dX12_foretold_76 rfl in_12 (Nat.le_of_ble_eq_true rfl) wd_467 rfl h2 g6 ?_
  refine Rn_aload_n dX12_foretold_79 rfl rfl rfl ?_
  refine Rn_getfield (ci := 12) (k := 0) dX12_foretold_80 rfl in_12 (Nat.le_of_ble_eq_true rfl) wd_460 rfl h2 g8 ?_
  refine Rn_getfield (ci := 11) (k := 0) dX12_foretold_83 rfl in_11 (Nat.le_of_ble_eq_true rfl) wd_293 rfl h10 g12 ?_
  refine Rn_aload_n dX12_foretold_86 rfl rfl rfl ?_
  refine Rn_getfield (ci := 12) (k := 0) dX12_foretold_87 rfl in_12 (Nat.le_of_ble_eq_true rfl) wd_460 rfl h2 g8 ?_
  exact Rn_callV (ci := 11) (avs := []) (st := [vR t11, vR t5, vR t3]) (bc1 := 0) (bs1 := 0) (bc2 := bc) (bs2 := bs) fx_X11_rules dX12_foretold_90 wd_871 wd_872 wd_873 rfl h10 rfl (Nat.le_of_ble_eq_true rfl) (Nat.le_of_ble_eq_true rfl) (by omega) (by omega) (ls1 := [some (vR (some at7))]) rfl k
theorem BX12_foretold_93 {d bc bs : Nat} {h : aH} {n : Nat} {Q : aQ} {r0 q1 q2 q3 : Option Nat} {x1 x2 x3 x4 : Int} {aq0 : Nat} {f1 : List aV} (h2 : h aq0 = cO 2 f1) (k : Rn d 0 0 mX2_passTide 0 [some (vR (some aq0)), some (vR q1), some (vR q2), some (vR q3), none, none, none, none] [] h n (fun v h1 n1 => Rn (d + 1) bc bs mX12_foretold 96 [some (vR r0), some (vI x1), some (vI x2), some (vI x3), some (vI x4)] (v.toList ++ []) h1 n1 Q)) : Rn (d + 1) (bc) (bs) mX12_foretold 93 [some (vR r0), some (vI x1), some (vI x2), some (vI x3), some (vI x4)] [vR q3, vR q2, vR q1, vR (some aq0)] h n Q := by
  exact Rn_callV (ci := 2) (avs := [vR q1, vR q2, vR q3]) (st := []) (bc1 := 0) (bs1 := 0) (bc2 := bc) (bs2 := bs) fx_X2_passTide dX12_foretold_93 wd_879 wd_880 wd_881 rfl h2 rfl (Nat.le_of_ble_eq_true rfl) (Nat.le_of_ble_eq_true rfl) (by omega) (by omega) (ls1 := [some (vR (some aq0)), some (vR q1), some (vR q2), some (vR q3), none, none, none, none]) rfl k
theorem BX12_foretold_96 {d bc bs : Nat} {h : aH} {n : Nat} {Q : aQ} {r0 : Option Nat} {x1 x2 x3 x4 s0 : Int} (b1 : -2147483648 ≤ x4 + 1 ∧ x4 + 1 < 2147483648) (k : Rn d bc bs mX12_foretold 52 [some (vR r0), some (vI x1), some (vI x2), some (vI x3), some (vI (x4 + 1))] [] h n Q) : Rn d (bc) (bs) mX12_foretold 96 [some (vR r0), some (vI x1), some (vI x2), some (vI x3), some (vI x4)] [vI s0] h n Q := by
  refine Rn_pop dX12_foretold_96 rfl ?_
  refine Rn_iinc dX12_foretold_97 rfl (Nat.le_of_ble_eq_true rfl) rfl rfl rfl ?_
  rw [w32_id b1.1 b1.2]
  refine Rn_goto (tgt := 52) dX12_foretold_100 rfl ?_
  exact k
theorem BX12_foretold_103 {d bc bs : Nat} {h : aH} {n : Nat} {Q : aQ} {ar0 at3 : Nat} {x1 x2 x3 x4 : Int} {f1 f6 : List aV} (h2 : h ar0 = cO 12 f1) (g4 : f1[7]? = some (vR (some at3))) (b5 : -2147483648 ≤ 2 + x3 ∧ 2 + x3 < 2147483648) (h7 : h at3 = cO 6 f6) (k : Rn d 0 0 mX6_get 0 [some (vR (some at3)), some (vI x2), some (vI (2 + x3)), none] [] h n (fun v h1 n1 => Rn (d + 1) bc bs mX12_foretold 114 [some (vR (some ar0)), some (vI x1), some (vI x2), some (vI x3), some (vI x4)] (v.toList ++ []) h1 n1 Q)) : Rn (d + 1) (bc) (bs) mX12_foretold 103 [some (vR (some ar0)), some (vI x1), some (vI x2), some (vI x3), some (vI x4)] [] h n Q := by
  refine Rn_aload_n dX12_foretold_103 rfl rfl rfl ?_
  refine Rn_getfield (ci := 12) (k := 7) dX12_foretold_104 rfl in_12 (Nat.le_of_ble_eq_true rfl) wd_467 rfl h2 g4 ?_
  refine Rn_iload_n dX12_foretold_107 rfl rfl ?_
  refine Rn_iconst dX12_foretold_108 rfl ?_
  refine Rn_iload_n dX12_foretold_109 rfl rfl ?_
  refine Rn_iadd dX12_foretold_110 ?_
  rw [w32_id b5.1 b5.2]
  exact Rn_callV (ci := 6) (avs := [vI x2, vI (2 + x3)]) (st := []) (bc1 := 0) (bs1 := 0) (bc2 := bc) (bs2 := bs) fx_X6_get dX12_foretold_111 wd_843 wd_840 wd_841 rfl h7 rfl (Nat.le_of_ble_eq_true rfl) (Nat.le_of_ble_eq_true rfl) (by omega) (by omega) (ls1 := [some (vR (some at3)), some (vI x2), some (vI (2 + x3)), none]) rfl k
theorem BX12_foretold_114 {d bc bs : Nat} {h : aH} {n : Nat} {Q : aQ} {r0 : Option Nat} {x1 x2 x3 x4 s0 : Int} (k : Q (some (vI s0)) h n) : Rn d (bc) (bs) mX12_foretold 114 [some (vR r0), some (vI x1), some (vI x2), some (vI x3), some (vI x4)] [vI s0] h n Q := by
  exact Rn_ireturn rfl dX12_foretold_114 k
theorem dX12_ends_0 : decode cX12_ends 0 = .ok (.aload_n 0, 1) := by decide +kernel
theorem dX12_ends_1 : decode cX12_ends 1 = .ok (.getfield 10, 3) := by decide +kernel
theorem dX12_ends_4 : decode cX12_ends 4 = .ok (.getfield 128, 3) := by decide +kernel
theorem dX12_ends_7 : decode cX12_ends 7 = .ok (.iload_n 1, 1) := by decide +kernel
theorem dX12_ends_8 : decode cX12_ends 8 = .ok (.invokevirtual 188, 3) := by decide +kernel
theorem dX12_ends_11 : decode cX12_ends 11 = .ok (.ifCond .ne 5, 3) := by decide +kernel
theorem dX12_ends_14 : decode cX12_ends 14 = .ok (.iconst (-1), 1) := by decide +kernel
theorem dX12_ends_15 : decode cX12_ends 15 = .ok (.ireturn, 1) := by decide +kernel
theorem dX12_ends_16 : decode cX12_ends 16 = .ok (.aload_n 0, 1) := by decide +kernel
theorem dX12_ends_17 : decode cX12_ends 17 = .ok (.getfield 57, 3) := by decide +kernel
theorem dX12_ends_20 : decode cX12_ends 20 = .ok (.aload_n 0, 1) := by decide +kernel
theorem dX12_ends_21 : decode cX12_ends 21 = .ok (.getfield 10, 3) := by decide +kernel
theorem dX12_ends_24 : decode cX12_ends 24 = .ok (.getfield 128, 3) := by decide +kernel
theorem dX12_ends_27 : decode cX12_ends 27 = .ok (.invokevirtual 278, 3) := by decide +kernel
theorem dX12_ends_30 : decode cX12_ends 30 = .ok (.iconst 1, 1) := by decide +kernel
theorem dX12_ends_31 : decode cX12_ends 31 = .ok (.istore_n 2, 1) := by decide +kernel
theorem dX12_ends_32 : decode cX12_ends 32 = .ok (.iload_n 2, 1) := by decide +kernel
theorem dX12_ends_33 : decode cX12_ends 33 = .ok (.bipush 60, 2) := by decide +kernel
theorem dX12_ends_35 : decode cX12_ends 35 = .ok (.if_icmp .gt 61, 3) := by decide +kernel
theorem dX12_ends_38 : decode cX12_ends 38 = .ok (.aload_n 0, 1) := by decide +kernel
theorem dX12_ends_39 : decode cX12_ends 39 = .ok (.getfield 57, 3) := by decide +kernel
theorem dX12_ends_42 : decode cX12_ends 42 = .ok (.getfield 131, 3) := by decide +kernel
theorem dX12_ends_45 : decode cX12_ends 45 = .ok (.sipush 9999, 3) := by decide +kernel
theorem dX12_ends_48 : decode cX12_ends 48 = .ok (.if_icmp .ge 48, 3) := by decide +kernel
theorem dX12_ends_51 : decode cX12_ends 51 = .ok (.aload_n 0, 1) := by decide +kernel
theorem dX12_ends_52 : decode cX12_ends 52 = .ok (.getfield 36, 3) := by decide +kernel
theorem dX12_ends_55 : decode cX12_ends 55 = .ok (.aload_n 0, 1) := by decide +kernel
theorem dX12_ends_56 : decode cX12_ends 56 = .ok (.getfield 57, 3) := by decide +kernel
theorem dX12_ends_59 : decode cX12_ends 59 = .ok (.aload_n 0, 1) := by decide +kernel
theorem dX12_ends_60 : decode cX12_ends 60 = .ok (.getfield 10, 3) := by decide +kernel
theorem dX12_ends_63 : decode cX12_ends 63 = .ok (.getfield 68, 3) := by decide +kernel
theorem dX12_ends_66 : decode cX12_ends 66 = .ok (.aload_n 0, 1) := by decide +kernel
theorem dX12_ends_67 : decode cX12_ends 67 = .ok (.getfield 10, 3) := by decide +kernel
theorem dX12_ends_70 : decode cX12_ends 70 = .ok (.invokevirtual 205, 3) := by decide +kernel
theorem dX12_ends_73 : decode cX12_ends 73 = .ok (.invokevirtual 209, 3) := by decide +kernel
theorem dX12_ends_76 : decode cX12_ends 76 = .ok (.pop, 1) := by decide +kernel
theorem dX12_ends_77 : decode cX12_ends 77 = .ok (.aload_n 0, 1) := by decide +kernel
theorem dX12_ends_78 : decode cX12_ends 78 = .ok (.getfield 57, 3) := by decide +kernel
theorem dX12_ends_81 : decode cX12_ends 81 = .ok (.iload_n 1, 1) := by decide +kernel
theorem dX12_ends_82 : decode cX12_ends 82 = .ok (.invokevirtual 188, 3) := by decide +kernel
theorem dX12_ends_85 : decode cX12_ends 85 = .ok (.ifCond .ne 5, 3) := by decide +kernel
theorem dX12_ends_88 : decode cX12_ends 88 = .ok (.iload_n 2, 1) := by decide +kernel
theorem dX12_ends_89 : decode cX12_ends 89 = .ok (.ireturn, 1) := by decide +kernel
theorem dX12_ends_90 : decode cX12_ends 90 = .ok (.iinc 2 1, 3) := by decide +kernel
theorem dX12_ends_93 : decode cX12_ends 93 = .ok (.goto (-61), 3) := by decide +kernel
theorem dX12_ends_96 : decode cX12_ends 96 = .ok (.iconst (-1), 1) := by decide +kernel
theorem dX12_ends_97 : decode cX12_ends 97 = .ok (.ireturn, 1) := by decide +kernel
theorem BX12_ends_0 {d bc bs : Nat} {h : aH} {n : Nat} {Q : aQ} {ar0 at3 at7 : Nat} {x1 : Int} {l2 : Option aV} {f1 f5 f9 : List aV} (h2 : h ar0 = cO 12 f1) (g4 : f1[0]? = some (vR (some at3))) (h6 : h at3 = cO 11 f5) (g8 : f5[1]? = some (vR (some at7))) (h10 : h at7 = cO 6 f9) (k : Rn d 0 0 mX6_isAfloat 0 [some (vR (some at7)), some (vI x1)] [] h n (fun v h1 n1 => Rn (d + 1) bc bs mX12_ends 11 [some (vR (some ar0)), some (vI x1), l2] (v.toList ++ []) h1 n1 Q)) : Rn (d + 1) (bc) (bs) mX12_ends 0 [some (vR (some ar0)), some (vI x1), l2] [] h n Q := by
  refine Rn_aload_n dX12_ends_0 rfl rfl rfl ?_
  refine Rn_getfield (ci := 12) (k := 0) dX12_ends_1 rfl in_12 (Nat.le_of_ble_eq_true rfl) wd_460 rfl h2 g4 ?_
  refine Rn_getfield (ci := 11) (k := 1) dX12_ends_4 rfl in_11 (Nat.le_of_ble_eq_true rfl) wd_295 rfl h6 g8 ?_
  refine Rn_iload_n dX12_ends_7 rfl rfl ?_
  exact Rn_callV (ci := 6) (avs := [vI x1]) (st := []) (bc1 := 0) (bs1 := 0) (bc2 := bc) (bs2 := bs) fx_X6_isAfloat dX12_ends_8 wd_831 wd_832 wd_833 rfl h10 rfl (Nat.le_of_ble_eq_true rfl) (Nat.le_of_ble_eq_true rfl) (by omega) (by omega) (ls1 := [some (vR (some at7)), some (vI x1)]) rfl k
theorem BX12_ends_11 {d bc bs : Nat} {h : aH} {n : Nat} {Q : aQ} {r0 : Option Nat} {x1 s0 : Int} {l2 : Option aV} (kt : s0 ≠ 0 → Rn d bc bs mX12_ends 16 [some (vR r0), some (vI x1), l2] [] h n Q) (kf : s0 = 0 → Rn d bc bs mX12_ends 14 [some (vR r0), some (vI x1), l2] [] h n Q) : Rn d (bc) (bs) mX12_ends 11 [some (vR r0), some (vI x1), l2] [vI s0] h n Q := by
  refine Rn_ifne (tgt := 16) dX12_ends_11 rfl ?_ ?_
  · exact kt
  · exact kf
theorem BX12_ends_14 {d bc bs : Nat} {h : aH} {n : Nat} {Q : aQ} {r0 : Option Nat} {x1 : Int} {l2 : Option aV} (k : Q (some (vI (-1))) h n) : Rn d (bc) (bs) mX12_ends 14 [some (vR r0), some (vI x1), l2] [] h n Q := by
  refine Rn_iconst dX12_ends_14 rfl ?_
  exact Rn_ireturn rfl dX12_ends_15 k
theorem BX12_ends_16 {d bc bs : Nat} {h : aH} {n : Nat} {Q : aQ} {ar0 at3 at5 : Nat} {x1 : Int} {l2 : Option aV} {f1 f7 f11 : List aV} {t9 : Option Nat} (h2 : h ar0 = cO 12 f1) (g4 : f1[7]? = some (vR (some at3))) (g6 : f1[0]? = some (vR (some at5))) (h8 : h at5 = cO 11 f7) (g10 : f7[1]? = some (vR t9)) (h12 : h at3 = cO 6 f11) (k : Rn d 0 0 mX6_copyFrom 0 [some (vR (some at3)), some (vR t9)] [] h n (fun v h1 n1 => Rn (d + 1) bc bs mX12_ends 30 [some (vR (some ar0)), some (vI x1), l2] (v.toList ++ []) h1 n1 Q)) : Rn (d + 1) (bc) (bs) mX12_ends 16 [some (vR (some ar0)), some (vI x1), l2] [] h n Q := by
  refine Rn_aload_n dX12_ends_16 rfl rfl rfl ?_
  refine Rn_getfield (ci := 12) (k := 7) dX12_ends_17 rfl in_12 (Nat.le_of_ble_eq_true rfl) wd_467 rfl h2 g4 ?_
  refine Rn_aload_n dX12_ends_20 rfl rfl rfl ?_
  refine Rn_getfield (ci := 12) (k := 0) dX12_ends_21 rfl in_12 (Nat.le_of_ble_eq_true rfl) wd_460 rfl h2 g6 ?_
  refine Rn_getfield (ci := 11) (k := 1) dX12_ends_24 rfl in_11 (Nat.le_of_ble_eq_true rfl) wd_295 rfl h8 g10 ?_
  exact Rn_callV (ci := 6) (avs := [vR t9]) (st := []) (bc1 := 0) (bs1 := 0) (bc2 := bc) (bs2 := bs) fx_X6_copyFrom dX12_ends_27 wd_1063 wd_798 wd_799 rfl h12 rfl (Nat.le_of_ble_eq_true rfl) (Nat.le_of_ble_eq_true rfl) (by omega) (by omega) (ls1 := [some (vR (some at3)), some (vR t9)]) rfl k
theorem BX12_ends_30 {d bc bs : Nat} {h : aH} {n : Nat} {Q : aQ} {r0 : Option Nat} {x1 : Int} {l2 : Option aV} (k : Rn d bc bs mX12_ends 32 [some (vR r0), some (vI x1), some (vI 1)] [] h n Q) : Rn d (bc) (bs) mX12_ends 30 [some (vR r0), some (vI x1), l2] [] h n Q := by
  refine Rn_iconst dX12_ends_30 rfl ?_
  refine Rn_istore_n dX12_ends_31 rfl (Nat.le_of_ble_eq_true rfl) rfl rfl ?_
  exact k
theorem BX12_ends_32 {d bc bs : Nat} {h : aH} {n : Nat} {Q : aQ} {r0 : Option Nat} {x1 x2 : Int} (kt : 60 < x2 → Rn d bc bs mX12_ends 96 [some (vR r0), some (vI x1), some (vI x2)] [] h n Q) (kf : x2 ≤ 60 → Rn d bc bs mX12_ends 38 [some (vR r0), some (vI x1), some (vI x2)] [] h n Q) : Rn d (bc) (bs) mX12_ends 32 [some (vR r0), some (vI x1), some (vI x2)] [] h n Q := by
  refine Rn_iload_n dX12_ends_32 rfl rfl ?_
  refine Rn_bipush dX12_ends_33 rfl ?_
  refine Rn_icmpgt (tgt := 96) dX12_ends_35 rfl ?_ ?_
  · exact kt
  · exact kf
theorem BX12_ends_38 {d bc bs : Nat} {h : aH} {n : Nat} {Q : aQ} {ar0 at3 : Nat} {x1 x2 v7 : Int} {f1 f5 : List aV} (h2 : h ar0 = cO 12 f1) (g4 : f1[7]? = some (vR (some at3))) (h6 : h at3 = cO 6 f5) (g8 : f5[3]? = some (vI v7)) (kt : 9999 ≤ v7 → Rn d bc bs mX12_ends 96 [some (vR (some ar0)), some (vI x1), some (vI x2)] [] h n Q) (kf : v7 < 9999 → Rn d bc bs mX12_ends 51 [some (vR (some ar0)), some (vI x1), some (vI x2)] [] h n Q) : Rn d (bc) (bs) mX12_ends 38 [some (vR (some ar0)), some (vI x1), some (vI x2)] [] h n Q := by
  refine Rn_aload_n dX12_ends_38 rfl rfl rfl ?_
  refine Rn_getfield (ci := 12) (k := 7) dX12_ends_39 rfl in_12 (Nat.le_of_ble_eq_true rfl) wd_467 rfl h2 g4 ?_
  refine Rn_getfield (ci := 6) (k := 3) dX12_ends_42 rfl in_6 (Nat.le_of_ble_eq_true rfl) wd_210 rfl h6 g8 ?_
  refine Rn_sipush dX12_ends_45 rfl ?_
  refine Rn_icmpge (tgt := 96) dX12_ends_48 rfl ?_ ?_
  · exact kt
  · exact kf
theorem BX12_ends_51 {d bc bs : Nat} {h : aH} {n : Nat} {Q : aQ} {ar0 at7 : Nat} {x1 x2 : Int} {f1 f9 : List aV} {t3 t5 t11 : Option Nat} (h2 : h ar0 = cO 12 f1) (g4 : f1[4]? = some (vR t3)) (g6 : f1[7]? = some (vR t5)) (g8 : f1[0]? = some (vR (some at7))) (h10 : h at7 = cO 11 f9) (g12 : f9[0]? = some (vR t11)) (k : Rn d 0 0 mX11_rules 0 [some (vR (some at7))] [] h n (fun v h1 n1 => Rn (d + 1) bc bs mX12_ends 73 [some (vR (some ar0)), some (vI x1), some (vI x2)] (v.toList ++ [vR t11, vR t5, vR t3]) h1 n1 Q)) : Rn (d + 1) (bc) (bs) mX12_ends 51 [some (vR (some ar0)), some (vI x1), some (vI x2)] [] h n Q := by
  refine Rn_aload_n dX12_ends_51 rfl rfl rfl ?_
  refine Rn_getfield (ci := 12) (k := 4) dX12_ends_52 rfl in_12 (Nat.le_of_ble_eq_true rfl) wd_464 rfl h2 g4 ?_
  refine Rn_aload_n dX12_ends_55 rfl rfl rfl ?_
  refine Rn_getfield (ci := 12) (k := 7) dX12_ends_56 rfl in_12 (Nat.le_of_ble_eq_true rfl) wd_467 rfl h2 g6 ?_
  refine Rn_aload_n dX12_ends_59 rfl rfl rfl ?_
  refine Rn_getfield (ci := 12) (k := 0) dX12_ends_60 rfl in_12 (Nat.le_of_ble_eq_true rfl) wd_460 rfl h2 g8 ?_
  refine Rn_getfield (ci := 11) (k := 0) dX12_ends_63 rfl in_11 (Nat.le_of_ble_eq_true rfl) wd_293 rfl h10 g12 ?_
  refine Rn_aload_n dX12_ends_66 rfl rfl rfl ?_
  refine Rn_getfield (ci := 12) (k := 0) dX12_ends_67 rfl in_12 (Nat.le_of_ble_eq_true rfl) wd_460 rfl h2 g8 ?_
  exact Rn_callV (ci := 11) (avs := []) (st := [vR t11, vR t5, vR t3]) (bc1 := 0) (bs1 := 0) (bc2 := bc) (bs2 := bs) fx_X11_rules dX12_ends_70 wd_871 wd_872 wd_873 rfl h10 rfl (Nat.le_of_ble_eq_true rfl) (Nat.le_of_ble_eq_true rfl) (by omega) (by omega) (ls1 := [some (vR (some at7))]) rfl k
theorem BX12_ends_73 {d bc bs : Nat} {h : aH} {n : Nat} {Q : aQ} {r0 q1 q2 q3 : Option Nat} {x1 x2 : Int} {aq0 : Nat} {f1 : List aV} (h2 : h aq0 = cO 2 f1) (k : Rn d 0 0 mX2_passTide 0 [some (vR (some aq0)), some (vR q1), some (vR q2), some (vR q3), none, none, none, none] [] h n (fun v h1 n1 => Rn (d + 1) bc bs mX12_ends 76 [some (vR r0), some (vI x1), some (vI x2)] (v.toList ++ []) h1 n1 Q)) : Rn (d + 1) (bc) (bs) mX12_ends 73 [some (vR r0), some (vI x1), some (vI x2)] [vR q3, vR q2, vR q1, vR (some aq0)] h n Q := by
  exact Rn_callV (ci := 2) (avs := [vR q1, vR q2, vR q3]) (st := []) (bc1 := 0) (bs1 := 0) (bc2 := bc) (bs2 := bs) fx_X2_passTide dX12_ends_73 wd_879 wd_880 wd_881 rfl h2 rfl (Nat.le_of_ble_eq_true rfl) (Nat.le_of_ble_eq_true rfl) (by omega) (by omega) (ls1 := [some (vR (some aq0)), some (vR q1), some (vR q2), some (vR q3), none, none, none, none]) rfl k
theorem BX12_ends_76 {d bc bs : Nat} {h : aH} {n : Nat} {Q : aQ} {ar0 at3 : Nat} {x1 x2 s0 : Int} {f1 f5 : List aV} (h2 : h ar0 = cO 12 f1) (g4 : f1[7]? = some (vR (some at3))) (h6 : h at3 = cO 6 f5) (k : Rn d 0 0 mX6_isAfloat 0 [some (vR (some at3)), some (vI x1)] [] h n (fun v h1 n1 => Rn (d + 1) bc bs mX12_ends 85 [some (vR (some ar0)), some (vI x1), some (vI x2)] (v.toList ++ []) h1 n1 Q)) : Rn (d + 1) (bc) (bs) mX12_ends 76 [some (vR (some ar0)), some (vI x1), some (vI x2)] [vI s0] h n Q := by
  refine Rn_pop dX12_ends_76 rfl ?_
  refine Rn_aload_n dX12_ends_77 rfl rfl rfl ?_
  refine Rn_getfield (ci := 12) (k := 7) dX12_ends_78 rfl in_12 (Nat.le_of_ble_eq_true rfl) wd_467 rfl h2 g4 ?_
  refine Rn_iload_n dX12_ends_81 rfl rfl ?_
  exact Rn_callV (ci := 6) (avs := [vI x1]) (st := []) (bc1 := 0) (bs1 := 0) (bc2 := bc) (bs2 := bs) fx_X6_isAfloat dX12_ends_82 wd_831 wd_832 wd_833 rfl h6 rfl (Nat.le_of_ble_eq_true rfl) (Nat.le_of_ble_eq_true rfl) (by omega) (by omega) (ls1 := [some (vR (some at3)), some (vI x1)]) rfl k
theorem BX12_ends_85 {d bc bs : Nat} {h : aH} {n : Nat} {Q : aQ} {r0 : Option Nat} {x1 x2 s0 : Int} (kt : s0 ≠ 0 → Rn d bc bs mX12_ends 90 [some (vR r0), some (vI x1), some (vI x2)] [] h n Q) (kf : s0 = 0 → Rn d bc bs mX12_ends 88 [some (vR r0), some (vI x1), some (vI x2)] [] h n Q) : Rn d (bc) (bs) mX12_ends 85 [some (vR r0), some (vI x1), some (vI x2)] [vI s0] h n Q := by
  refine Rn_ifne (tgt := 90) dX12_ends_85 rfl ?_ ?_
  · exact kt
  · exact kf
theorem BX12_ends_88 {d bc bs : Nat} {h : aH} {n : Nat} {Q : aQ} {r0 : Option Nat} {x1 x2 : Int} (k : Q (some (vI x2)) h n) : Rn d (bc) (bs) mX12_ends 88 [some (vR r0), some (vI x1), some (vI x2)] [] h n Q := by
  refine Rn_iload_n dX12_ends_88 rfl rfl ?_
  exact Rn_ireturn rfl dX12_ends_89 k
theorem BX12_ends_90 {d bc bs : Nat} {h : aH} {n : Nat} {Q : aQ} {r0 : Option Nat} {x1 x2 : Int} (b1 : -2147483648 ≤ x2 + 1 ∧ x2 + 1 < 2147483648) (k : Rn d bc bs mX12_ends 32 [some (vR r0), some (vI x1), some (vI (x2 + 1))] [] h n Q) : Rn d (bc) (bs) mX12_ends 90 [some (vR r0), some (vI x1), some (vI x2)] [] h n Q := by
  refine Rn_iinc dX12_ends_90 rfl (Nat.le_of_ble_eq_true rfl) rfl rfl rfl ?_
  rw [w32_id b1.1 b1.2]
  refine Rn_goto (tgt := 32) dX12_ends_93 rfl ?_
  exact k
theorem BX12_ends_96 {d bc bs : Nat} {h : aH} {n : Nat} {Q : aQ} {r0 : Option Nat} {x1 x2 : Int} (k : Q (some (vI (-1))) h n) : Rn d (bc) (bs) mX12_ends 96 [some (vR r0), some (vI x1), some (vI x2)] [] h n Q := by
  refine Rn_iconst dX12_ends_96 rfl ?_
  exact Rn_ireturn rfl dX12_ends_97 k
theorem dX12_drift_0 : decode cX12_drift 0 = .ok (.iload_n 1, 1) := by decide +kernel
theorem dX12_drift_1 : decode cX12_drift 1 = .ok (.invokestatic 235, 3) := by decide +kernel
theorem dX12_drift_4 : decode cX12_drift 4 = .ok (.ifCond .eq 13, 3) := by decide +kernel
theorem dX12_drift_7 : decode cX12_drift 7 = .ok (.iload_n 2, 1) := by decide +kernel
theorem dX12_drift_8 : decode cX12_drift 8 = .ok (.iconst 0, 1) := by decide +kernel
theorem dX12_drift_9 : decode cX12_drift 9 = .ok (.bipush 60, 2) := by decide +kernel
theorem dX12_drift_11 : decode cX12_drift 11 = .ok (.invokestatic 93, 3) := by decide +kernel
theorem dX12_drift_14 : decode cX12_drift 14 = .ok (.ifCond .ne 5, 3) := by decide +kernel
theorem dX12_drift_17 : decode cX12_drift 17 = .ok (.iconst (-1), 1) := by decide +kernel
theorem dX12_drift_18 : decode cX12_drift 18 = .ok (.ireturn, 1) := by decide +kernel
theorem dX12_drift_19 : decode cX12_drift 19 = .ok (.aload_n 0, 1) := by decide +kernel
theorem dX12_drift_20 : decode cX12_drift 20 = .ok (.getfield 10, 3) := by decide +kernel
theorem dX12_drift_23 : decode cX12_drift 23 = .ok (.getfield 68, 3) := by decide +kernel
theorem dX12_drift_26 : decode cX12_drift 26 = .ok (.iload_n 1, 1) := by decide +kernel
theorem dX12_drift_27 : decode cX12_drift 27 = .ok (.aload_n 0, 1) := by decide +kernel
theorem dX12_drift_28 : decode cX12_drift 28 = .ok (.getfield 10, 3) := by decide +kernel
theorem dX12_drift_31 : decode cX12_drift 31 = .ok (.getfield 128, 3) := by decide +kernel
theorem dX12_drift_34 : decode cX12_drift 34 = .ok (.getfield 131, 3) := by decide +kernel
theorem dX12_drift_37 : decode cX12_drift 37 = .ok (.iload_n 2, 1) := by decide +kernel
theorem dX12_drift_38 : decode cX12_drift 38 = .ok (.invokevirtual 281, 3) := by decide +kernel
theorem dX12_drift_41 : decode cX12_drift 41 = .ok (.ireturn, 1) := by decide +kernel
theorem BX12_drift_0 {d bc bs : Nat} {h : aH} {n : Nat} {Q : aQ} {r0 : Option Nat} {x1 x2 : Int} (k : Rn d 0 0 mX12_isPlace 0 [some (vI x1)] [] h n (fun v h1 n1 => Rn (d + 1) bc bs mX12_drift 4 [some (vR r0), some (vI x1), some (vI x2)] (v.toList ++ []) h1 n1 Q)) : Rn (d + 1) (bc) (bs) mX12_drift 0 [some (vR r0), some (vI x1), some (vI x2)] [] h n Q := by
  refine Rn_iload_n dX12_drift_0 rfl rfl ?_
  exact Rn_callS (avs := [vI x1]) (st := []) (bc1 := 0) (bs1 := 0) (bc2 := bc) (bs2 := bs) fx_X12_isPlace dX12_drift_1 (Or.inl wd_1009) wd_500 rfl (Nat.le_of_ble_eq_true rfl) (Nat.le_of_ble_eq_true rfl) (by omega) (by omega) (ls1 := [some (vI x1)]) rfl k
theorem BX12_drift_4 {d bc bs : Nat} {h : aH} {n : Nat} {Q : aQ} {r0 : Option Nat} {x1 x2 s0 : Int} (kt : s0 = 0 → Rn d bc bs mX12_drift 17 [some (vR r0), some (vI x1), some (vI x2)] [] h n Q) (kf : s0 ≠ 0 → Rn d bc bs mX12_drift 7 [some (vR r0), some (vI x1), some (vI x2)] [] h n Q) : Rn d (bc) (bs) mX12_drift 4 [some (vR r0), some (vI x1), some (vI x2)] [vI s0] h n Q := by
  refine Rn_ifeq (tgt := 17) dX12_drift_4 rfl ?_ ?_
  · exact kt
  · exact kf
theorem BX12_drift_7 {d bc bs : Nat} {h : aH} {n : Nat} {Q : aQ} {r0 : Option Nat} {x1 x2 : Int} (k : Rn d 0 0 mX12_within 0 [some (vI x2), some (vI 0), some (vI 60)] [] h n (fun v h1 n1 => Rn (d + 1) bc bs mX12_drift 14 [some (vR r0), some (vI x1), some (vI x2)] (v.toList ++ []) h1 n1 Q)) : Rn (d + 1) (bc) (bs) mX12_drift 7 [some (vR r0), some (vI x1), some (vI x2)] [] h n Q := by
  refine Rn_iload_n dX12_drift_7 rfl rfl ?_
  refine Rn_iconst dX12_drift_8 rfl ?_
  refine Rn_bipush dX12_drift_9 rfl ?_
  exact Rn_callS (avs := [vI x2, vI 0, vI 60]) (st := []) (bc1 := 0) (bs1 := 0) (bc2 := bc) (bs2 := bs) fx_X12_within dX12_drift_11 (Or.inl wd_502) wd_503 rfl (Nat.le_of_ble_eq_true rfl) (Nat.le_of_ble_eq_true rfl) (by omega) (by omega) (ls1 := [some (vI x2), some (vI 0), some (vI 60)]) rfl k
theorem BX12_drift_14 {d bc bs : Nat} {h : aH} {n : Nat} {Q : aQ} {r0 : Option Nat} {x1 x2 s0 : Int} (kt : s0 ≠ 0 → Rn d bc bs mX12_drift 19 [some (vR r0), some (vI x1), some (vI x2)] [] h n Q) (kf : s0 = 0 → Rn d bc bs mX12_drift 17 [some (vR r0), some (vI x1), some (vI x2)] [] h n Q) : Rn d (bc) (bs) mX12_drift 14 [some (vR r0), some (vI x1), some (vI x2)] [vI s0] h n Q := by
  refine Rn_ifne (tgt := 19) dX12_drift_14 rfl ?_ ?_
  · exact kt
  · exact kf
theorem BX12_drift_17 {d bc bs : Nat} {h : aH} {n : Nat} {Q : aQ} {r0 : Option Nat} {x1 x2 : Int} (k : Q (some (vI (-1))) h n) : Rn d (bc) (bs) mX12_drift 17 [some (vR r0), some (vI x1), some (vI x2)] [] h n Q := by
  refine Rn_iconst dX12_drift_17 rfl ?_
  exact Rn_ireturn rfl dX12_drift_18 k
theorem BX12_drift_19 {d bc bs : Nat} {h : aH} {n : Nat} {Q : aQ} {ar0 at3 at7 at9 : Nat} {x1 x2 v13 : Int} {f1 f5 f11 f15 : List aV} (h2 : h ar0 = cO 12 f1) (g4 : f1[0]? = some (vR (some at3))) (h6 : h at3 = cO 11 f5) (g8 : f5[0]? = some (vR (some at7))) (g10 : f5[1]? = some (vR (some at9))) (h12 : h at9 = cO 6 f11) (g14 : f11[3]? = some (vI v13)) (h16 : h at7 = cO 7 f15) (k : Rn d 0 0 mX7_driftsTo 0 [some (vR (some at7)), some (vI x1), some (vI v13), some (vI x2), none, none] [] h n (fun v h1 n1 => Rn (d + 1) bc bs mX12_drift 41 [some (vR (some ar0)), some (vI x1), some (vI x2)] (v.toList ++ []) h1 n1 Q)) : Rn (d + 1) (bc) (bs) mX12_drift 19 [some (vR (some ar0)), some (vI x1), some (vI x2)] [] h n Q := by
  refine Rn_aload_n dX12_drift_19 rfl rfl rfl ?_
  refine Rn_getfield (ci := 12) (k := 0) dX12_drift_20 rfl in_12 (Nat.le_of_ble_eq_true rfl) wd_460 rfl h2 g4 ?_
  refine Rn_getfield (ci := 11) (k := 0) dX12_drift_23 rfl in_11 (Nat.le_of_ble_eq_true rfl) wd_293 rfl h6 g8 ?_
  refine Rn_iload_n dX12_drift_26 rfl rfl ?_
  refine Rn_aload_n dX12_drift_27 rfl rfl rfl ?_
  refine Rn_getfield (ci := 12) (k := 0) dX12_drift_28 rfl in_12 (Nat.le_of_ble_eq_true rfl) wd_460 rfl h2 g4 ?_
  refine Rn_getfield (ci := 11) (k := 1) dX12_drift_31 rfl in_11 (Nat.le_of_ble_eq_true rfl) wd_295 rfl h6 g10 ?_
  refine Rn_getfield (ci := 6) (k := 3) dX12_drift_34 rfl in_6 (Nat.le_of_ble_eq_true rfl) wd_210 rfl h12 g14 ?_
  refine Rn_iload_n dX12_drift_37 rfl rfl ?_
  exact Rn_callV (ci := 7) (avs := [vI x1, vI v13, vI x2]) (st := []) (bc1 := 0) (bs1 := 0) (bc2 := bc) (bs2 := bs) fx_X7_driftsTo dX12_drift_38 wd_1072 wd_1073 wd_1074 rfl h16 rfl (Nat.le_of_ble_eq_true rfl) (Nat.le_of_ble_eq_true rfl) (by omega) (by omega) (ls1 := [some (vR (some at7)), some (vI x1), some (vI v13), some (vI x2), none, none]) rfl k
theorem BX12_drift_41 {d bc bs : Nat} {h : aH} {n : Nat} {Q : aQ} {r0 : Option Nat} {x1 x2 s0 : Int} (k : Q (some (vI s0)) h n) : Rn d (bc) (bs) mX12_drift 41 [some (vR r0), some (vI x1), some (vI x2)] [vI s0] h n Q := by
  exact Rn_ireturn rfl dX12_drift_41 k
theorem dX12_soonest_0 : decode cX12_soonest 0 = .ok (.aload_n 0, 1) := by decide +kernel
theorem dX12_soonest_1 : decode cX12_soonest 1 = .ok (.getfield 10, 3) := by decide +kernel
theorem dX12_soonest_4 : decode cX12_soonest 4 = .ok (.getfield 68, 3) := by decide +kernel
theorem dX12_soonest_7 : decode cX12_soonest 7 = .ok (.iload_n 1, 1) := by decide +kernel
theorem dX12_soonest_8 : decode cX12_soonest 8 = .ok (.invokevirtual 175, 3) := by decide +kernel
theorem dX12_soonest_11 : decode cX12_soonest 11 = .ok (.ifCond .eq 26, 3) := by decide +kernel
theorem dX12_soonest_14 : decode cX12_soonest 14 = .ok (.aload_n 0, 1) := by decide +kernel
theorem dX12_soonest_15 : decode cX12_soonest 15 = .ok (.getfield 10, 3) := by decide +kernel
theorem dX12_soonest_18 : decode cX12_soonest 18 = .ok (.getfield 68, 3) := by decide +kernel
theorem dX12_soonest_21 : decode cX12_soonest 21 = .ok (.iload_n 2, 1) := by decide +kernel
theorem dX12_soonest_22 : decode cX12_soonest 22 = .ok (.invokevirtual 175, 3) := by decide +kernel
theorem dX12_soonest_25 : decode cX12_soonest 25 = .ok (.ifCond .eq 12, 3) := by decide +kernel
theorem dX12_soonest_28 : decode cX12_soonest 28 = .ok (.iload_n 3, 1) := by decide +kernel
theorem dX12_soonest_29 : decode cX12_soonest 29 = .ok (.iconst 0, 1) := by decide +kernel
theorem dX12_soonest_30 : decode cX12_soonest 30 = .ok (.iconst 1, 1) := by decide +kernel
theorem dX12_soonest_31 : decode cX12_soonest 31 = .ok (.invokestatic 93, 3) := by decide +kernel
theorem dX12_soonest_34 : decode cX12_soonest 34 = .ok (.ifCond .ne 5, 3) := by decide +kernel
theorem dX12_soonest_37 : decode cX12_soonest 37 = .ok (.iconst (-1), 1) := by decide +kernel
theorem dX12_soonest_38 : decode cX12_soonest 38 = .ok (.ireturn, 1) := by decide +kernel
theorem dX12_soonest_39 : decode cX12_soonest 39 = .ok (.aload_n 0, 1) := by decide +kernel
theorem dX12_soonest_40 : decode cX12_soonest 40 = .ok (.getfield 43, 3) := by decide +kernel
theorem dX12_soonest_43 : decode cX12_soonest 43 = .ok (.aload_n 0, 1) := by decide +kernel
theorem dX12_soonest_44 : decode cX12_soonest 44 = .ok (.getfield 10, 3) := by decide +kernel
theorem dX12_soonest_47 : decode cX12_soonest 47 = .ok (.getfield 68, 3) := by decide +kernel
theorem dX12_soonest_50 : decode cX12_soonest 50 = .ok (.iload_n 1, 1) := by decide +kernel
theorem dX12_soonest_51 : decode cX12_soonest 51 = .ok (.iload_n 2, 1) := by decide +kernel
theorem dX12_soonest_52 : decode cX12_soonest 52 = .ok (.aload_n 0, 1) := by decide +kernel
theorem dX12_soonest_53 : decode cX12_soonest 53 = .ok (.getfield 10, 3) := by decide +kernel
theorem dX12_soonest_56 : decode cX12_soonest 56 = .ok (.getfield 128, 3) := by decide +kernel
theorem dX12_soonest_59 : decode cX12_soonest 59 = .ok (.getfield 131, 3) := by decide +kernel
theorem dX12_soonest_62 : decode cX12_soonest 62 = .ok (.bipush 60, 2) := by decide +kernel
theorem dX12_soonest_64 : decode cX12_soonest 64 = .ok (.invokevirtual 285, 3) := by decide +kernel
theorem dX12_soonest_67 : decode cX12_soonest 67 = .ok (.istore 4, 2) := by decide +kernel
theorem dX12_soonest_69 : decode cX12_soonest 69 = .ok (.iload_n 3, 1) := by decide +kernel
theorem dX12_soonest_70 : decode cX12_soonest 70 = .ok (.ifCond .eq 9, 3) := by decide +kernel
theorem dX12_soonest_73 : decode cX12_soonest 73 = .ok (.iload 4, 2) := by decide +kernel
theorem dX12_soonest_75 : decode cX12_soonest 75 = .ok (.iconst (-1), 1) := by decide +kernel
theorem dX12_soonest_76 : decode cX12_soonest 76 = .ok (.if_icmp .ne 8, 3) := by decide +kernel
theorem dX12_soonest_79 : decode cX12_soonest 79 = .ok (.iload 4, 2) := by decide +kernel
theorem dX12_soonest_81 : decode cX12_soonest 81 = .ok (.goto 10, 3) := by decide +kernel
theorem dX12_soonest_84 : decode cX12_soonest 84 = .ok (.aload_n 0, 1) := by decide +kernel
theorem dX12_soonest_85 : decode cX12_soonest 85 = .ok (.getfield 43, 3) := by decide +kernel
theorem dX12_soonest_88 : decode cX12_soonest 88 = .ok (.getfield 289, 3) := by decide +kernel
theorem dX12_soonest_91 : decode cX12_soonest 91 = .ok (.ireturn, 1) := by decide +kernel
theorem BX12_soonest_0 {d bc bs : Nat} {h : aH} {n : Nat} {Q : aQ} {ar0 at3 at7 : Nat} {x1 x2 x3 : Int} {l4 : Option aV} {f1 f5 f9 : List aV} (h2 : h ar0 = cO 12 f1) (g4 : f1[0]? = some (vR (some at3))) (h6 : h at3 = cO 11 f5) (g8 : f5[0]? = some (vR (some at7))) (h10 : h at7 = cO 7 f9) (k : Rn d 0 0 mX7_hasPerson 0 [some (vR (some at7)), some (vI x1)] [] h n (fun v h1 n1 => Rn (d + 1) bc bs mX12_soonest 11 [some (vR (some ar0)), some (vI x1), some (vI x2), some (vI x3), l4] (v.toList ++ []) h1 n1 Q)) : Rn (d + 1) (bc) (bs) mX12_soonest 0 [some (vR (some ar0)), some (vI x1), some (vI x2), some (vI x3), l4] [] h n Q := by
  refine Rn_aload_n dX12_soonest_0 rfl rfl rfl ?_
  refine Rn_getfield (ci := 12) (k := 0) dX12_soonest_1 rfl in_12 (Nat.le_of_ble_eq_true rfl) wd_460 rfl h2 g4 ?_
  refine Rn_getfield (ci := 11) (k := 0) dX12_soonest_4 rfl in_11 (Nat.le_of_ble_eq_true rfl) wd_293 rfl h6 g8 ?_
  refine Rn_iload_n dX12_soonest_7 rfl rfl ?_
  exact Rn_callV (ci := 7) (avs := [vI x1]) (st := []) (bc1 := 0) (bs1 := 0) (bc2 := bc) (bs2 := bs) fx_X7_hasPerson dX12_soonest_8 wd_781 wd_782 wd_783 rfl h10 rfl (Nat.le_of_ble_eq_true rfl) (Nat.le_of_ble_eq_true rfl) (by omega) (by omega) (ls1 := [some (vR (some at7)), some (vI x1)]) rfl k
theorem BX12_soonest_11 {d bc bs : Nat} {h : aH} {n : Nat} {Q : aQ} {r0 : Option Nat} {x1 x2 x3 s0 : Int} {l4 : Option aV} (kt : s0 = 0 → Rn d bc bs mX12_soonest 37 [some (vR r0), some (vI x1), some (vI x2), some (vI x3), l4] [] h n Q) (kf : s0 ≠ 0 → Rn d bc bs mX12_soonest 14 [some (vR r0), some (vI x1), some (vI x2), some (vI x3), l4] [] h n Q) : Rn d (bc) (bs) mX12_soonest 11 [some (vR r0), some (vI x1), some (vI x2), some (vI x3), l4] [vI s0] h n Q := by
  refine Rn_ifeq (tgt := 37) dX12_soonest_11 rfl ?_ ?_
  · exact kt
  · exact kf
theorem BX12_soonest_14 {d bc bs : Nat} {h : aH} {n : Nat} {Q : aQ} {ar0 at3 at7 : Nat} {x1 x2 x3 : Int} {l4 : Option aV} {f1 f5 f9 : List aV} (h2 : h ar0 = cO 12 f1) (g4 : f1[0]? = some (vR (some at3))) (h6 : h at3 = cO 11 f5) (g8 : f5[0]? = some (vR (some at7))) (h10 : h at7 = cO 7 f9) (k : Rn d 0 0 mX7_hasPerson 0 [some (vR (some at7)), some (vI x2)] [] h n (fun v h1 n1 => Rn (d + 1) bc bs mX12_soonest 25 [some (vR (some ar0)), some (vI x1), some (vI x2), some (vI x3), l4] (v.toList ++ []) h1 n1 Q)) : Rn (d + 1) (bc) (bs) mX12_soonest 14 [some (vR (some ar0)), some (vI x1), some (vI x2), some (vI x3), l4] [] h n Q := by
  refine Rn_aload_n dX12_soonest_14 rfl rfl rfl ?_
  refine Rn_getfield (ci := 12) (k := 0) dX12_soonest_15 rfl in_12 (Nat.le_of_ble_eq_true rfl) wd_460 rfl h2 g4 ?_
  refine Rn_getfield (ci := 11) (k := 0) dX12_soonest_18 rfl in_11 (Nat.le_of_ble_eq_true rfl) wd_293 rfl h6 g8 ?_
  refine Rn_iload_n dX12_soonest_21 rfl rfl ?_
  exact Rn_callV (ci := 7) (avs := [vI x2]) (st := []) (bc1 := 0) (bs1 := 0) (bc2 := bc) (bs2 := bs) fx_X7_hasPerson dX12_soonest_22 wd_781 wd_782 wd_783 rfl h10 rfl (Nat.le_of_ble_eq_true rfl) (Nat.le_of_ble_eq_true rfl) (by omega) (by omega) (ls1 := [some (vR (some at7)), some (vI x2)]) rfl k
theorem BX12_soonest_25 {d bc bs : Nat} {h : aH} {n : Nat} {Q : aQ} {r0 : Option Nat} {x1 x2 x3 s0 : Int} {l4 : Option aV} (kt : s0 = 0 → Rn d bc bs mX12_soonest 37 [some (vR r0), some (vI x1), some (vI x2), some (vI x3), l4] [] h n Q) (kf : s0 ≠ 0 → Rn d bc bs mX12_soonest 28 [some (vR r0), some (vI x1), some (vI x2), some (vI x3), l4] [] h n Q) : Rn d (bc) (bs) mX12_soonest 25 [some (vR r0), some (vI x1), some (vI x2), some (vI x3), l4] [vI s0] h n Q := by
  refine Rn_ifeq (tgt := 37) dX12_soonest_25 rfl ?_ ?_
  · exact kt
  · exact kf
theorem BX12_soonest_28 {d bc bs : Nat} {h : aH} {n : Nat} {Q : aQ} {r0 : Option Nat} {x1 x2 x3 : Int} {l4 : Option aV} (k : Rn d 0 0 mX12_within 0 [some (vI x3), some (vI 0), some (vI 1)] [] h n (fun v h1 n1 => Rn (d + 1) bc bs mX12_soonest 34 [some (vR r0), some (vI x1), some (vI x2), some (vI x3), l4] (v.toList ++ []) h1 n1 Q)) : Rn (d + 1) (bc) (bs) mX12_soonest 28 [some (vR r0), some (vI x1), some (vI x2), some (vI x3), l4] [] h n Q := by
  refine Rn_iload_n dX12_soonest_28 rfl rfl ?_
  refine Rn_iconst dX12_soonest_29 rfl ?_
  refine Rn_iconst dX12_soonest_30 rfl ?_
  exact Rn_callS (avs := [vI x3, vI 0, vI 1]) (st := []) (bc1 := 0) (bs1 := 0) (bc2 := bc) (bs2 := bs) fx_X12_within dX12_soonest_31 (Or.inl wd_502) wd_503 rfl (Nat.le_of_ble_eq_true rfl) (Nat.le_of_ble_eq_true rfl) (by omega) (by omega) (ls1 := [some (vI x3), some (vI 0), some (vI 1)]) rfl k
theorem BX12_soonest_34 {d bc bs : Nat} {h : aH} {n : Nat} {Q : aQ} {r0 : Option Nat} {x1 x2 x3 s0 : Int} {l4 : Option aV} (kt : s0 ≠ 0 → Rn d bc bs mX12_soonest 39 [some (vR r0), some (vI x1), some (vI x2), some (vI x3), l4] [] h n Q) (kf : s0 = 0 → Rn d bc bs mX12_soonest 37 [some (vR r0), some (vI x1), some (vI x2), some (vI x3), l4] [] h n Q) : Rn d (bc) (bs) mX12_soonest 34 [some (vR r0), some (vI x1), some (vI x2), some (vI x3), l4] [vI s0] h n Q := by
  refine Rn_ifne (tgt := 39) dX12_soonest_34 rfl ?_ ?_
  · exact kt
  · exact kf
theorem BX12_soonest_37 {d bc bs : Nat} {h : aH} {n : Nat} {Q : aQ} {r0 : Option Nat} {x1 x2 x3 : Int} {l4 : Option aV} (k : Q (some (vI (-1))) h n) : Rn d (bc) (bs) mX12_soonest 37 [some (vR r0), some (vI x1), some (vI x2), some (vI x3), l4] [] h n Q := by
  refine Rn_iconst dX12_soonest_37 rfl ?_
  exact Rn_ireturn rfl dX12_soonest_38 k
theorem BX12_soonest_39 {d bc bs : Nat} {h : aH} {n : Nat} {Q : aQ} {ar0 at3 at5 at11 : Nat} {x1 x2 x3 v15 : Int} {l4 : Option aV} {f1 f7 f13 f17 : List aV} {t9 : Option Nat} (h2 : h ar0 = cO 12 f1) (g4 : f1[5]? = some (vR (some at3))) (g6 : f1[0]? = some (vR (some at5))) (h8 : h at5 = cO 11 f7) (g10 : f7[0]? = some (vR t9)) (g12 : f7[1]? = some (vR (some at11))) (h14 : h at11 = cO 6 f13) (g16 : f13[3]? = some (vI v15)) (h18 : h at3 = cO 4 f17) (k : Rn d 0 0 mX4_meet 0 [some (vR (some at3)), some (vR t9), some (vI x1), some (vI x2), some (vI v15), some (vI 60), none, none, none, none, none] [] h n (fun v h1 n1 => Rn (d + 1) bc bs mX12_soonest 67 [some (vR (some ar0)), some (vI x1), some (vI x2), some (vI x3), l4] (v.toList ++ []) h1 n1 Q)) : Rn (d + 1) (bc) (bs) mX12_soonest 39 [some (vR (some ar0)), some (vI x1), some (vI x2), some (vI x3), l4] [] h n Q := by
  refine Rn_aload_n dX12_soonest_39 rfl rfl rfl ?_
  refine Rn_getfield (ci := 12) (k := 5) dX12_soonest_40 rfl in_12 (Nat.le_of_ble_eq_true rfl) wd_465 rfl h2 g4 ?_
  refine Rn_aload_n dX12_soonest_43 rfl rfl rfl ?_
  refine Rn_getfield (ci := 12) (k := 0) dX12_soonest_44 rfl in_12 (Nat.le_of_ble_eq_true rfl) wd_460 rfl h2 g6 ?_
  refine Rn_getfield (ci := 11) (k := 0) dX12_soonest_47 rfl in_11 (Nat.le_of_ble_eq_true rfl) wd_293 rfl h8 g10 ?_
  refine Rn_iload_n dX12_soonest_50 rfl rfl ?_
  refine Rn_iload_n dX12_soonest_51 rfl rfl ?_
  refine Rn_aload_n dX12_soonest_52 rfl rfl rfl ?_
  refine Rn_getfield (ci := 12) (k := 0) dX12_soonest_53 rfl in_12 (Nat.le_of_ble_eq_true rfl) wd_460 rfl h2 g6 ?_
  refine Rn_getfield (ci := 11) (k := 1) dX12_soonest_56 rfl in_11 (Nat.le_of_ble_eq_true rfl) wd_295 rfl h8 g12 ?_
  refine Rn_getfield (ci := 6) (k := 3) dX12_soonest_59 rfl in_6 (Nat.le_of_ble_eq_true rfl) wd_210 rfl h14 g16 ?_
  refine Rn_bipush dX12_soonest_62 rfl ?_
  exact Rn_callV (ci := 4) (avs := [vR t9, vI x1, vI x2, vI v15, vI 60]) (st := []) (bc1 := 0) (bs1 := 0) (bc2 := bc) (bs2 := bs) fx_X4_meet dX12_soonest_64 wd_1081 wd_1082 wd_1083 rfl h18 rfl (Nat.le_of_ble_eq_true rfl) (Nat.le_of_ble_eq_true rfl) (by omega) (by omega) (ls1 := [some (vR (some at3)), some (vR t9), some (vI x1), some (vI x2), some (vI v15), some (vI 60), none, none, none, none, none]) rfl k
theorem BX12_soonest_67 {d bc bs : Nat} {h : aH} {n : Nat} {Q : aQ} {r0 : Option Nat} {x1 x2 x3 s0 : Int} {l4 : Option aV} (kt : x3 = 0 → Rn d bc bs mX12_soonest 79 [some (vR r0), some (vI x1), some (vI x2), some (vI x3), some (vI s0)] [] h n Q) (kf : x3 ≠ 0 → Rn d bc bs mX12_soonest 73 [some (vR r0), some (vI x1), some (vI x2), some (vI x3), some (vI s0)] [] h n Q) : Rn d (bc) (bs) mX12_soonest 67 [some (vR r0), some (vI x1), some (vI x2), some (vI x3), l4] [vI s0] h n Q := by
  refine Rn_istore dX12_soonest_67 (Nat.le_of_ble_eq_true rfl) rfl rfl ?_
  refine Rn_iload_n dX12_soonest_69 rfl rfl ?_
  refine Rn_ifeq (tgt := 79) dX12_soonest_70 rfl ?_ ?_
  · exact kt
  · exact kf
theorem BX12_soonest_73 {d bc bs : Nat} {h : aH} {n : Nat} {Q : aQ} {r0 : Option Nat} {x1 x2 x3 x4 : Int} (kt : x4 ≠ (-1) → Rn d bc bs mX12_soonest 84 [some (vR r0), some (vI x1), some (vI x2), some (vI x3), some (vI x4)] [] h n Q) (kf : x4 = (-1) → Rn d bc bs mX12_soonest 79 [some (vR r0), some (vI x1), some (vI x2), some (vI x3), some (vI x4)] [] h n Q) : Rn d (bc) (bs) mX12_soonest 73 [some (vR r0), some (vI x1), some (vI x2), some (vI x3), some (vI x4)] [] h n Q := by
  refine Rn_iload dX12_soonest_73 rfl ?_
  refine Rn_iconst dX12_soonest_75 rfl ?_
  refine Rn_icmpne (tgt := 84) dX12_soonest_76 rfl ?_ ?_
  · exact kt
  · exact kf
theorem BX12_soonest_79 {d bc bs : Nat} {h : aH} {n : Nat} {Q : aQ} {r0 : Option Nat} {x1 x2 x3 x4 : Int} (k : Q (some (vI x4)) h n) : Rn d (bc) (bs) mX12_soonest 79 [some (vR r0), some (vI x1), some (vI x2), some (vI x3), some (vI x4)] [] h n Q := by
  refine Rn_iload dX12_soonest_79 rfl ?_
  refine Rn_goto (tgt := 91) dX12_soonest_81 rfl ?_
  exact Rn_ireturn rfl dX12_soonest_91 k
theorem BX12_soonest_84 {d bc bs : Nat} {h : aH} {n : Nat} {Q : aQ} {ar0 at3 : Nat} {x1 x2 x3 x4 v7 : Int} {f1 f5 : List aV} (h2 : h ar0 = cO 12 f1) (g4 : f1[5]? = some (vR (some at3))) (h6 : h at3 = cO 4 f5) (g8 : f5[0]? = some (vI v7)) (k : Q (some (vI v7)) h n) : Rn d (bc) (bs) mX12_soonest 84 [some (vR (some ar0)), some (vI x1), some (vI x2), some (vI x3), some (vI x4)] [] h n Q := by
  refine Rn_aload_n dX12_soonest_84 rfl rfl rfl ?_
  refine Rn_getfield (ci := 12) (k := 5) dX12_soonest_85 rfl in_12 (Nat.le_of_ble_eq_true rfl) wd_465 rfl h2 g4 ?_
  refine Rn_getfield (ci := 4) (k := 0) dX12_soonest_88 rfl in_4 (Nat.le_of_ble_eq_true rfl) wd_408 rfl h6 g8 ?_
  exact Rn_ireturn rfl dX12_soonest_91 k
theorem dX12_relay_0 : decode cX12_relay 0 = .ok (.aload_n 0, 1) := by decide +kernel
theorem dX12_relay_1 : decode cX12_relay 1 = .ok (.getfield 10, 3) := by decide +kernel
theorem dX12_relay_4 : decode cX12_relay 4 = .ok (.getfield 68, 3) := by decide +kernel
theorem dX12_relay_7 : decode cX12_relay 7 = .ok (.iload_n 1, 1) := by decide +kernel
theorem dX12_relay_8 : decode cX12_relay 8 = .ok (.invokevirtual 175, 3) := by decide +kernel
theorem dX12_relay_11 : decode cX12_relay 11 = .ok (.ifCond .eq 22, 3) := by decide +kernel
theorem dX12_relay_14 : decode cX12_relay 14 = .ok (.aload_n 0, 1) := by decide +kernel
theorem dX12_relay_15 : decode cX12_relay 15 = .ok (.getfield 10, 3) := by decide +kernel
theorem dX12_relay_18 : decode cX12_relay 18 = .ok (.getfield 68, 3) := by decide +kernel
theorem dX12_relay_21 : decode cX12_relay 21 = .ok (.iload_n 2, 1) := by decide +kernel
theorem dX12_relay_22 : decode cX12_relay 22 = .ok (.invokevirtual 175, 3) := by decide +kernel
theorem dX12_relay_25 : decode cX12_relay 25 = .ok (.ifCond .eq 8, 3) := by decide +kernel
theorem dX12_relay_28 : decode cX12_relay 28 = .ok (.iload_n 1, 1) := by decide +kernel
theorem dX12_relay_29 : decode cX12_relay 29 = .ok (.iload_n 2, 1) := by decide +kernel
theorem dX12_relay_30 : decode cX12_relay 30 = .ok (.if_icmp .ne 6, 3) := by decide +kernel
theorem dX12_relay_33 : decode cX12_relay 33 = .ok (.bipush (-2), 2) := by decide +kernel
theorem dX12_relay_35 : decode cX12_relay 35 = .ok (.ireturn, 1) := by decide +kernel
theorem dX12_relay_36 : decode cX12_relay 36 = .ok (.aload_n 0, 1) := by decide +kernel
theorem dX12_relay_37 : decode cX12_relay 37 = .ok (.getfield 43, 3) := by decide +kernel
theorem dX12_relay_40 : decode cX12_relay 40 = .ok (.aload_n 0, 1) := by decide +kernel
theorem dX12_relay_41 : decode cX12_relay 41 = .ok (.getfield 10, 3) := by decide +kernel
theorem dX12_relay_44 : decode cX12_relay 44 = .ok (.getfield 68, 3) := by decide +kernel
theorem dX12_relay_47 : decode cX12_relay 47 = .ok (.iload_n 1, 1) := by decide +kernel
theorem dX12_relay_48 : decode cX12_relay 48 = .ok (.iload_n 2, 1) := by decide +kernel
theorem dX12_relay_49 : decode cX12_relay 49 = .ok (.aload_n 0, 1) := by decide +kernel
theorem dX12_relay_50 : decode cX12_relay 50 = .ok (.getfield 10, 3) := by decide +kernel
theorem dX12_relay_53 : decode cX12_relay 53 = .ok (.getfield 128, 3) := by decide +kernel
theorem dX12_relay_56 : decode cX12_relay 56 = .ok (.getfield 131, 3) := by decide +kernel
theorem dX12_relay_59 : decode cX12_relay 59 = .ok (.invokevirtual 292, 3) := by decide +kernel
theorem dX12_relay_62 : decode cX12_relay 62 = .ok (.istore 4, 2) := by decide +kernel
theorem dX12_relay_64 : decode cX12_relay 64 = .ok (.iload 4, 2) := by decide +kernel
theorem dX12_relay_66 : decode cX12_relay 66 = .ok (.iconst (-1), 1) := by decide +kernel
theorem dX12_relay_67 : decode cX12_relay 67 = .ok (.if_icmp .ne 6, 3) := by decide +kernel
theorem dX12_relay_70 : decode cX12_relay 70 = .ok (.bipush (-2), 2) := by decide +kernel
theorem dX12_relay_72 : decode cX12_relay 72 = .ok (.ireturn, 1) := by decide +kernel
theorem dX12_relay_73 : decode cX12_relay 73 = .ok (.iload_n 3, 1) := by decide +kernel
theorem dX12_relay_74 : decode cX12_relay 74 = .ok (.iconst (-1), 1) := by decide +kernel
theorem dX12_relay_75 : decode cX12_relay 75 = .ok (.if_icmp .ne 6, 3) := by decide +kernel
theorem dX12_relay_78 : decode cX12_relay 78 = .ok (.iload 4, 2) := by decide +kernel
theorem dX12_relay_80 : decode cX12_relay 80 = .ok (.ireturn, 1) := by decide +kernel
theorem dX12_relay_81 : decode cX12_relay 81 = .ok (.iload_n 3, 1) := by decide +kernel
theorem dX12_relay_82 : decode cX12_relay 82 = .ok (.iconst 0, 1) := by decide +kernel
theorem dX12_relay_83 : decode cX12_relay 83 = .ok (.aload_n 0, 1) := by decide +kernel
theorem dX12_relay_84 : decode cX12_relay 84 = .ok (.getfield 43, 3) := by decide +kernel
theorem dX12_relay_87 : decode cX12_relay 87 = .ok (.getfield 296, 3) := by decide +kernel
theorem dX12_relay_90 : decode cX12_relay 90 = .ok (.iconst 1, 1) := by decide +kernel
theorem dX12_relay_91 : decode cX12_relay 91 = .ok (.isub, 1) := by decide +kernel
theorem dX12_relay_92 : decode cX12_relay 92 = .ok (.invokestatic 93, 3) := by decide +kernel
theorem dX12_relay_95 : decode cX12_relay 95 = .ok (.ifCond .eq 14, 3) := by decide +kernel
theorem dX12_relay_98 : decode cX12_relay 98 = .ok (.aload_n 0, 1) := by decide +kernel
theorem dX12_relay_99 : decode cX12_relay 99 = .ok (.getfield 43, 3) := by decide +kernel
theorem dX12_relay_102 : decode cX12_relay 102 = .ok (.iload_n 3, 1) := by decide +kernel
theorem dX12_relay_103 : decode cX12_relay 103 = .ok (.invokevirtual 299, 3) := by decide +kernel
theorem dX12_relay_106 : decode cX12_relay 106 = .ok (.goto 5, 3) := by decide +kernel
theorem dX12_relay_109 : decode cX12_relay 109 = .ok (.bipush (-2), 2) := by decide +kernel
theorem dX12_relay_111 : decode cX12_relay 111 = .ok (.ireturn, 1) := by decide +kernel
theorem BX12_relay_0 {d bc bs : Nat} {h : aH} {n : Nat} {Q : aQ} {ar0 at3 at7 : Nat} {x1 x2 x3 : Int} {l4 : Option aV} {f1 f5 f9 : List aV} (h2 : h ar0 = cO 12 f1) (g4 : f1[0]? = some (vR (some at3))) (h6 : h at3 = cO 11 f5) (g8 : f5[0]? = some (vR (some at7))) (h10 : h at7 = cO 7 f9) (k : Rn d 0 0 mX7_hasPerson 0 [some (vR (some at7)), some (vI x1)] [] h n (fun v h1 n1 => Rn (d + 1) bc bs mX12_relay 11 [some (vR (some ar0)), some (vI x1), some (vI x2), some (vI x3), l4] (v.toList ++ []) h1 n1 Q)) : Rn (d + 1) (bc) (bs) mX12_relay 0 [some (vR (some ar0)), some (vI x1), some (vI x2), some (vI x3), l4] [] h n Q := by
  refine Rn_aload_n dX12_relay_0 rfl rfl rfl ?_
  refine Rn_getfield (ci := 12) (k := 0) dX12_relay_1 rfl in_12 (Nat.le_of_ble_eq_true rfl) wd_460 rfl h2 g4 ?_
  refine Rn_getfield (ci := 11) (k := 0) dX12_relay_4 rfl in_11 (Nat.le_of_ble_eq_true rfl) wd_293 rfl h6 g8 ?_
  refine Rn_iload_n dX12_relay_7 rfl rfl ?_
  exact Rn_callV (ci := 7) (avs := [vI x1]) (st := []) (bc1 := 0) (bs1 := 0) (bc2 := bc) (bs2 := bs) fx_X7_hasPerson dX12_relay_8 wd_781 wd_782 wd_783 rfl h10 rfl (Nat.le_of_ble_eq_true rfl) (Nat.le_of_ble_eq_true rfl) (by omega) (by omega) (ls1 := [some (vR (some at7)), some (vI x1)]) rfl k
theorem BX12_relay_11 {d bc bs : Nat} {h : aH} {n : Nat} {Q : aQ} {r0 : Option Nat} {x1 x2 x3 s0 : Int} {l4 : Option aV} (kt : s0 = 0 → Rn d bc bs mX12_relay 33 [some (vR r0), some (vI x1), some (vI x2), some (vI x3), l4] [] h n Q) (kf : s0 ≠ 0 → Rn d bc bs mX12_relay 14 [some (vR r0), some (vI x1), some (vI x2), some (vI x3), l4] [] h n Q) : Rn d (bc) (bs) mX12_relay 11 [some (vR r0), some (vI x1), some (vI x2), some (vI x3), l4] [vI s0] h n Q := by
  refine Rn_ifeq (tgt := 33) dX12_relay_11 rfl ?_ ?_
  · exact kt
  · exact kf
theorem BX12_relay_14 {d bc bs : Nat} {h : aH} {n : Nat} {Q : aQ} {ar0 at3 at7 : Nat} {x1 x2 x3 : Int} {l4 : Option aV} {f1 f5 f9 : List aV} (h2 : h ar0 = cO 12 f1) (g4 : f1[0]? = some (vR (some at3))) (h6 : h at3 = cO 11 f5) (g8 : f5[0]? = some (vR (some at7))) (h10 : h at7 = cO 7 f9) (k : Rn d 0 0 mX7_hasPerson 0 [some (vR (some at7)), some (vI x2)] [] h n (fun v h1 n1 => Rn (d + 1) bc bs mX12_relay 25 [some (vR (some ar0)), some (vI x1), some (vI x2), some (vI x3), l4] (v.toList ++ []) h1 n1 Q)) : Rn (d + 1) (bc) (bs) mX12_relay 14 [some (vR (some ar0)), some (vI x1), some (vI x2), some (vI x3), l4] [] h n Q := by
  refine Rn_aload_n dX12_relay_14 rfl rfl rfl ?_
  refine Rn_getfield (ci := 12) (k := 0) dX12_relay_15 rfl in_12 (Nat.le_of_ble_eq_true rfl) wd_460 rfl h2 g4 ?_
  refine Rn_getfield (ci := 11) (k := 0) dX12_relay_18 rfl in_11 (Nat.le_of_ble_eq_true rfl) wd_293 rfl h6 g8 ?_
  refine Rn_iload_n dX12_relay_21 rfl rfl ?_
  exact Rn_callV (ci := 7) (avs := [vI x2]) (st := []) (bc1 := 0) (bs1 := 0) (bc2 := bc) (bs2 := bs) fx_X7_hasPerson dX12_relay_22 wd_781 wd_782 wd_783 rfl h10 rfl (Nat.le_of_ble_eq_true rfl) (Nat.le_of_ble_eq_true rfl) (by omega) (by omega) (ls1 := [some (vR (some at7)), some (vI x2)]) rfl k
theorem BX12_relay_25 {d bc bs : Nat} {h : aH} {n : Nat} {Q : aQ} {r0 : Option Nat} {x1 x2 x3 s0 : Int} {l4 : Option aV} (kt : s0 = 0 → Rn d bc bs mX12_relay 33 [some (vR r0), some (vI x1), some (vI x2), some (vI x3), l4] [] h n Q) (kf : s0 ≠ 0 → Rn d bc bs mX12_relay 28 [some (vR r0), some (vI x1), some (vI x2), some (vI x3), l4] [] h n Q) : Rn d (bc) (bs) mX12_relay 25 [some (vR r0), some (vI x1), some (vI x2), some (vI x3), l4] [vI s0] h n Q := by
  refine Rn_ifeq (tgt := 33) dX12_relay_25 rfl ?_ ?_
  · exact kt
  · exact kf
theorem BX12_relay_28 {d bc bs : Nat} {h : aH} {n : Nat} {Q : aQ} {r0 : Option Nat} {x1 x2 x3 : Int} {l4 : Option aV} (kt : x1 ≠ x2 → Rn d bc bs mX12_relay 36 [some (vR r0), some (vI x1), some (vI x2), some (vI x3), l4] [] h n Q) (kf : x1 = x2 → Rn d bc bs mX12_relay 33 [some (vR r0), some (vI x1), some (vI x2), some (vI x3), l4] [] h n Q) : Rn d (bc) (bs) mX12_relay 28 [some (vR r0), some (vI x1), some (vI x2), some (vI x3), l4] [] h n Q := by
  refine Rn_iload_n dX12_relay_28 rfl rfl ?_
  refine Rn_iload_n dX12_relay_29 rfl rfl ?_
  refine Rn_icmpne (tgt := 36) dX12_relay_30 rfl ?_ ?_
  · exact kt
  · exact kf
theorem BX12_relay_33 {d bc bs : Nat} {h : aH} {n : Nat} {Q : aQ} {r0 : Option Nat} {x1 x2 x3 : Int} {l4 : Option aV} (k : Q (some (vI (-2))) h n) : Rn d (bc) (bs) mX12_relay 33 [some (vR r0), some (vI x1), some (vI x2), some (vI x3), l4] [] h n Q := by
  refine Rn_bipush dX12_relay_33 rfl ?_
  exact Rn_ireturn rfl dX12_relay_35 k
theorem BX12_relay_36 {d bc bs : Nat} {h : aH} {n : Nat} {Q : aQ} {ar0 at3 at5 at11 : Nat} {x1 x2 x3 v15 : Int} {l4 : Option aV} {f1 f7 f13 f17 : List aV} {t9 : Option Nat} (h2 : h ar0 = cO 12 f1) (g4 : f1[5]? = some (vR (some at3))) (g6 : f1[0]? = some (vR (some at5))) (h8 : h at5 = cO 11 f7) (g10 : f7[0]? = some (vR t9)) (g12 : f7[1]? = some (vR (some at11))) (h14 : h at11 = cO 6 f13) (g16 : f13[3]? = some (vI v15)) (h18 : h at3 = cO 4 f17) (k : Rn d 0 0 mX4_relayTime 0 [some (vR (some at3)), some (vR t9), some (vI x1), some (vI x2), some (vI v15), none, none] [] h n (fun v h1 n1 => Rn (d + 1) bc bs mX12_relay 62 [some (vR (some ar0)), some (vI x1), some (vI x2), some (vI x3), l4] (v.toList ++ []) h1 n1 Q)) : Rn (d + 1) (bc) (bs) mX12_relay 36 [some (vR (some ar0)), some (vI x1), some (vI x2), some (vI x3), l4] [] h n Q := by
  refine Rn_aload_n dX12_relay_36 rfl rfl rfl ?_
  refine Rn_getfield (ci := 12) (k := 5) dX12_relay_37 rfl in_12 (Nat.le_of_ble_eq_true rfl) wd_465 rfl h2 g4 ?_
  refine Rn_aload_n dX12_relay_40 rfl rfl rfl ?_
  refine Rn_getfield (ci := 12) (k := 0) dX12_relay_41 rfl in_12 (Nat.le_of_ble_eq_true rfl) wd_460 rfl h2 g6 ?_
  refine Rn_getfield (ci := 11) (k := 0) dX12_relay_44 rfl in_11 (Nat.le_of_ble_eq_true rfl) wd_293 rfl h8 g10 ?_
  refine Rn_iload_n dX12_relay_47 rfl rfl ?_
  refine Rn_iload_n dX12_relay_48 rfl rfl ?_
  refine Rn_aload_n dX12_relay_49 rfl rfl rfl ?_
  refine Rn_getfield (ci := 12) (k := 0) dX12_relay_50 rfl in_12 (Nat.le_of_ble_eq_true rfl) wd_460 rfl h2 g6 ?_
  refine Rn_getfield (ci := 11) (k := 1) dX12_relay_53 rfl in_11 (Nat.le_of_ble_eq_true rfl) wd_295 rfl h8 g12 ?_
  refine Rn_getfield (ci := 6) (k := 3) dX12_relay_56 rfl in_6 (Nat.le_of_ble_eq_true rfl) wd_210 rfl h14 g16 ?_
  exact Rn_callV (ci := 4) (avs := [vR t9, vI x1, vI x2, vI v15]) (st := []) (bc1 := 0) (bs1 := 0) (bc2 := bc) (bs2 := bs) fx_X4_relayTime dX12_relay_59 wd_1092 wd_1093 wd_1094 rfl h18 rfl (Nat.le_of_ble_eq_true rfl) (Nat.le_of_ble_eq_true rfl) (by omega) (by omega) (ls1 := [some (vR (some at3)), some (vR t9), some (vI x1), some (vI x2), some (vI v15), none, none]) rfl k
theorem BX12_relay_62 {d bc bs : Nat} {h : aH} {n : Nat} {Q : aQ} {r0 : Option Nat} {x1 x2 x3 s0 : Int} {l4 : Option aV} (kt : s0 ≠ (-1) → Rn d bc bs mX12_relay 73 [some (vR r0), some (vI x1), some (vI x2), some (vI x3), some (vI s0)] [] h n Q) (kf : s0 = (-1) → Rn d bc bs mX12_relay 70 [some (vR r0), some (vI x1), some (vI x2), some (vI x3), some (vI s0)] [] h n Q) : Rn d (bc) (bs) mX12_relay 62 [some (vR r0), some (vI x1), some (vI x2), some (vI x3), l4] [vI s0] h n Q := by
  refine Rn_istore dX12_relay_62 (Nat.le_of_ble_eq_true rfl) rfl rfl ?_
  refine Rn_iload dX12_relay_64 rfl ?_
  refine Rn_iconst dX12_relay_66 rfl ?_
  refine Rn_icmpne (tgt := 73) dX12_relay_67 rfl ?_ ?_
  · exact kt
  · exact kf
theorem BX12_relay_70 {d bc bs : Nat} {h : aH} {n : Nat} {Q : aQ} {r0 : Option Nat} {x1 x2 x3 x4 : Int} (k : Q (some (vI (-2))) h n) : Rn d (bc) (bs) mX12_relay 70 [some (vR r0), some (vI x1), some (vI x2), some (vI x3), some (vI x4)] [] h n Q := by
  refine Rn_bipush dX12_relay_70 rfl ?_
  exact Rn_ireturn rfl dX12_relay_72 k
theorem BX12_relay_73 {d bc bs : Nat} {h : aH} {n : Nat} {Q : aQ} {r0 : Option Nat} {x1 x2 x3 x4 : Int} (kt : x3 ≠ (-1) → Rn d bc bs mX12_relay 81 [some (vR r0), some (vI x1), some (vI x2), some (vI x3), some (vI x4)] [] h n Q) (kf : x3 = (-1) → Rn d bc bs mX12_relay 78 [some (vR r0), some (vI x1), some (vI x2), some (vI x3), some (vI x4)] [] h n Q) : Rn d (bc) (bs) mX12_relay 73 [some (vR r0), some (vI x1), some (vI x2), some (vI x3), some (vI x4)] [] h n Q := by
  refine Rn_iload_n dX12_relay_73 rfl rfl ?_
  refine Rn_iconst dX12_relay_74 rfl ?_
  refine Rn_icmpne (tgt := 81) dX12_relay_75 rfl ?_ ?_
  · exact kt
  · exact kf
theorem BX12_relay_78 {d bc bs : Nat} {h : aH} {n : Nat} {Q : aQ} {r0 : Option Nat} {x1 x2 x3 x4 : Int} (k : Q (some (vI x4)) h n) : Rn d (bc) (bs) mX12_relay 78 [some (vR r0), some (vI x1), some (vI x2), some (vI x3), some (vI x4)] [] h n Q := by
  refine Rn_iload dX12_relay_78 rfl ?_
  exact Rn_ireturn rfl dX12_relay_80 k
theorem BX12_relay_81 {d bc bs : Nat} {h : aH} {n : Nat} {Q : aQ} {ar0 at3 : Nat} {x1 x2 x3 x4 v7 : Int} {f1 f5 : List aV} (h2 : h ar0 = cO 12 f1) (g4 : f1[5]? = some (vR (some at3))) (h6 : h at3 = cO 4 f5) (g8 : f5[3]? = some (vI v7)) (b9 : -2147483648 ≤ v7 - 1 ∧ v7 - 1 < 2147483648) (k : Rn d 0 0 mX12_within 0 [some (vI x3), some (vI 0), some (vI (v7 - 1))] [] h n (fun v h1 n1 => Rn (d + 1) bc bs mX12_relay 95 [some (vR (some ar0)), some (vI x1), some (vI x2), some (vI x3), some (vI x4)] (v.toList ++ []) h1 n1 Q)) : Rn (d + 1) (bc) (bs) mX12_relay 81 [some (vR (some ar0)), some (vI x1), some (vI x2), some (vI x3), some (vI x4)] [] h n Q := by
  refine Rn_iload_n dX12_relay_81 rfl rfl ?_
  refine Rn_iconst dX12_relay_82 rfl ?_
  refine Rn_aload_n dX12_relay_83 rfl rfl rfl ?_
  refine Rn_getfield (ci := 12) (k := 5) dX12_relay_84 rfl in_12 (Nat.le_of_ble_eq_true rfl) wd_465 rfl h2 g4 ?_
  refine Rn_getfield (ci := 4) (k := 3) dX12_relay_87 rfl in_4 (Nat.le_of_ble_eq_true rfl) wd_412 rfl h6 g8 ?_
  refine Rn_iconst dX12_relay_90 rfl ?_
  refine Rn_isub dX12_relay_91 ?_
  rw [w32_id b9.1 b9.2]
  exact Rn_callS (avs := [vI x3, vI 0, vI (v7 - 1)]) (st := []) (bc1 := 0) (bs1 := 0) (bc2 := bc) (bs2 := bs) fx_X12_within dX12_relay_92 (Or.inl wd_502) wd_503 rfl (Nat.le_of_ble_eq_true rfl) (Nat.le_of_ble_eq_true rfl) (by omega) (by omega) (ls1 := [some (vI x3), some (vI 0), some (vI (v7 - 1))]) rfl k
theorem BX12_relay_95 {d bc bs : Nat} {h : aH} {n : Nat} {Q : aQ} {r0 : Option Nat} {x1 x2 x3 x4 s0 : Int} (kt : s0 = 0 → Rn d bc bs mX12_relay 109 [some (vR r0), some (vI x1), some (vI x2), some (vI x3), some (vI x4)] [] h n Q) (kf : s0 ≠ 0 → Rn d bc bs mX12_relay 98 [some (vR r0), some (vI x1), some (vI x2), some (vI x3), some (vI x4)] [] h n Q) : Rn d (bc) (bs) mX12_relay 95 [some (vR r0), some (vI x1), some (vI x2), some (vI x3), some (vI x4)] [vI s0] h n Q := by
  refine Rn_ifeq (tgt := 109) dX12_relay_95 rfl ?_ ?_
  · exact kt
  · exact kf
theorem BX12_relay_98 {d bc bs : Nat} {h : aH} {n : Nat} {Q : aQ} {ar0 at3 : Nat} {x1 x2 x3 x4 : Int} {f1 f5 : List aV} (h2 : h ar0 = cO 12 f1) (g4 : f1[5]? = some (vR (some at3))) (h6 : h at3 = cO 4 f5) (k : Rn d 0 0 mX4_bestBetween 0 [some (vR (some at3)), some (vI x3)] [] h n (fun v h1 n1 => Rn (d + 1) bc bs mX12_relay 106 [some (vR (some ar0)), some (vI x1), some (vI x2), some (vI x3), some (vI x4)] (v.toList ++ []) h1 n1 Q)) : Rn (d + 1) (bc) (bs) mX12_relay 98 [some (vR (some ar0)), some (vI x1), some (vI x2), some (vI x3), some (vI x4)] [] h n Q := by
  refine Rn_aload_n dX12_relay_98 rfl rfl rfl ?_
  refine Rn_getfield (ci := 12) (k := 5) dX12_relay_99 rfl in_12 (Nat.le_of_ble_eq_true rfl) wd_465 rfl h2 g4 ?_
  refine Rn_iload_n dX12_relay_102 rfl rfl ?_
  exact Rn_callV (ci := 4) (avs := [vI x3]) (st := []) (bc1 := 0) (bs1 := 0) (bc2 := bc) (bs2 := bs) fx_X4_bestBetween dX12_relay_103 wd_1111 wd_1112 wd_1113 rfl h6 rfl (Nat.le_of_ble_eq_true rfl) (Nat.le_of_ble_eq_true rfl) (by omega) (by omega) (ls1 := [some (vR (some at3)), some (vI x3)]) rfl k
theorem BX12_relay_106 {d bc bs : Nat} {h : aH} {n : Nat} {Q : aQ} {r0 : Option Nat} {x1 x2 x3 x4 s0 : Int} (k : Q (some (vI s0)) h n) : Rn d (bc) (bs) mX12_relay 106 [some (vR r0), some (vI x1), some (vI x2), some (vI x3), some (vI x4)] [vI s0] h n Q := by
  refine Rn_goto (tgt := 111) dX12_relay_106 rfl ?_
  exact Rn_ireturn rfl dX12_relay_111 k
theorem BX12_relay_109 {d bc bs : Nat} {h : aH} {n : Nat} {Q : aQ} {r0 : Option Nat} {x1 x2 x3 x4 : Int} (k : Q (some (vI (-2))) h n) : Rn d (bc) (bs) mX12_relay 109 [some (vR r0), some (vI x1), some (vI x2), some (vI x3), some (vI x4)] [] h n Q := by
  refine Rn_bipush dX12_relay_109 rfl ?_
  exact Rn_ireturn rfl dX12_relay_111 k
theorem dX12_found_0 : decode cX12_found 0 = .ok (.iload_n 1, 1) := by decide +kernel
theorem dX12_found_1 : decode cX12_found 1 = .ok (.iconst (-1), 1) := by decide +kernel
theorem dX12_found_2 : decode cX12_found 2 = .ok (.if_icmp .ne 14, 3) := by decide +kernel
theorem dX12_found_5 : decode cX12_found 5 = .ok (.aload_n 0, 1) := by decide +kernel
theorem dX12_found_6 : decode cX12_found 6 = .ok (.getfield 10, 3) := by decide +kernel
theorem dX12_found_9 : decode cX12_found 9 = .ok (.getfield 263, 3) := by decide +kernel
theorem dX12_found_12 : decode cX12_found 12 = .ok (.invokevirtual 302, 3) := by decide +kernel
theorem dX12_found_15 : decode cX12_found 15 = .ok (.ireturn, 1) := by decide +kernel
theorem dX12_found_16 : decode cX12_found 16 = .ok (.iload_n 1, 1) := by decide +kernel
theorem dX12_found_17 : decode cX12_found 17 = .ok (.invokestatic 235, 3) := by decide +kernel
theorem dX12_found_20 : decode cX12_found 20 = .ok (.ifCond .eq 13, 3) := by decide +kernel
theorem dX12_found_23 : decode cX12_found 23 = .ok (.iload_n 2, 1) := by decide +kernel
theorem dX12_found_24 : decode cX12_found 24 = .ok (.iconst 1, 1) := by decide +kernel
theorem dX12_found_25 : decode cX12_found 25 = .ok (.bipush 60, 2) := by decide +kernel
theorem dX12_found_27 : decode cX12_found 27 = .ok (.invokestatic 93, 3) := by decide +kernel
theorem dX12_found_30 : decode cX12_found 30 = .ok (.ifCond .ne 6, 3) := by decide +kernel
theorem dX12_found_33 : decode cX12_found 33 = .ok (.bipush (-2), 2) := by decide +kernel
theorem dX12_found_35 : decode cX12_found 35 = .ok (.ireturn, 1) := by decide +kernel
theorem dX12_found_36 : decode cX12_found 36 = .ok (.aload_n 0, 1) := by decide +kernel
theorem dX12_found_37 : decode cX12_found 37 = .ok (.getfield 10, 3) := by decide +kernel
theorem dX12_found_40 : decode cX12_found 40 = .ok (.getfield 263, 3) := by decide +kernel
theorem dX12_found_43 : decode cX12_found 43 = .ok (.iload_n 1, 1) := by decide +kernel
theorem dX12_found_44 : decode cX12_found 44 = .ok (.iload_n 2, 1) := by decide +kernel
theorem dX12_found_45 : decode cX12_found 45 = .ok (.invokevirtual 305, 3) := by decide +kernel
theorem dX12_found_48 : decode cX12_found 48 = .ok (.ireturn, 1) := by decide +kernel
theorem BX12_found_0 {d bc bs : Nat} {h : aH} {n : Nat} {Q : aQ} {r0 : Option Nat} {x1 x2 : Int} (kt : x1 ≠ (-1) → Rn d bc bs mX12_found 16 [some (vR r0), some (vI x1), some (vI x2)] [] h n Q) (kf : x1 = (-1) → Rn d bc bs mX12_found 5 [some (vR r0), some (vI x1), some (vI x2)] [] h n Q) : Rn d (bc) (bs) mX12_found 0 [some (vR r0), some (vI x1), some (vI x2)] [] h n Q := by
  refine Rn_iload_n dX12_found_0 rfl rfl ?_
  refine Rn_iconst dX12_found_1 rfl ?_
  refine Rn_icmpne (tgt := 16) dX12_found_2 rfl ?_ ?_
  · exact kt
  · exact kf
theorem BX12_found_5 {d bc bs : Nat} {h : aH} {n : Nat} {Q : aQ} {ar0 at3 at7 : Nat} {x1 x2 : Int} {f1 f5 f9 : List aV} (h2 : h ar0 = cO 12 f1) (g4 : f1[0]? = some (vR (some at3))) (h6 : h at3 = cO 11 f5) (g8 : f5[3]? = some (vR (some at7))) (h10 : h at7 = cO 5 f9) (k : Rn d 0 0 mX5_forgetFound 0 [some (vR (some at7))] [] h n (fun v h1 n1 => Rn (d + 1) bc bs mX12_found 15 [some (vR (some ar0)), some (vI x1), some (vI x2)] (v.toList ++ []) h1 n1 Q)) : Rn (d + 1) (bc) (bs) mX12_found 5 [some (vR (some ar0)), some (vI x1), some (vI x2)] [] h n Q := by
  refine Rn_aload_n dX12_found_5 rfl rfl rfl ?_
  refine Rn_getfield (ci := 12) (k := 0) dX12_found_6 rfl in_12 (Nat.le_of_ble_eq_true rfl) wd_460 rfl h2 g4 ?_
  refine Rn_getfield (ci := 11) (k := 3) dX12_found_9 rfl in_11 (Nat.le_of_ble_eq_true rfl) wd_299 rfl h6 g8 ?_
  exact Rn_callV (ci := 5) (avs := []) (st := []) (bc1 := 0) (bs1 := 0) (bc2 := bc) (bs2 := bs) fx_X5_forgetFound dX12_found_12 wd_1120 wd_1121 wd_1122 rfl h10 rfl (Nat.le_of_ble_eq_true rfl) (Nat.le_of_ble_eq_true rfl) (by omega) (by omega) (ls1 := [some (vR (some at7))]) rfl k
theorem BX12_found_15 {d bc bs : Nat} {h : aH} {n : Nat} {Q : aQ} {r0 : Option Nat} {x1 x2 s0 : Int} (k : Q (some (vI s0)) h n) : Rn d (bc) (bs) mX12_found 15 [some (vR r0), some (vI x1), some (vI x2)] [vI s0] h n Q := by
  exact Rn_ireturn rfl dX12_found_15 k
theorem BX12_found_16 {d bc bs : Nat} {h : aH} {n : Nat} {Q : aQ} {r0 : Option Nat} {x1 x2 : Int} (k : Rn d 0 0 mX12_isPlace 0 [some (vI x1)] [] h n (fun v h1 n1 => Rn (d + 1) bc bs mX12_found 20 [some (vR r0), some (vI x1), some (vI x2)] (v.toList ++ []) h1 n1 Q)) : Rn (d + 1) (bc) (bs) mX12_found 16 [some (vR r0), some (vI x1), some (vI x2)] [] h n Q := by
  refine Rn_iload_n dX12_found_16 rfl rfl ?_
  exact Rn_callS (avs := [vI x1]) (st := []) (bc1 := 0) (bs1 := 0) (bc2 := bc) (bs2 := bs) fx_X12_isPlace dX12_found_17 (Or.inl wd_1009) wd_500 rfl (Nat.le_of_ble_eq_true rfl) (Nat.le_of_ble_eq_true rfl) (by omega) (by omega) (ls1 := [some (vI x1)]) rfl k
theorem BX12_found_20 {d bc bs : Nat} {h : aH} {n : Nat} {Q : aQ} {r0 : Option Nat} {x1 x2 s0 : Int} (kt : s0 = 0 → Rn d bc bs mX12_found 33 [some (vR r0), some (vI x1), some (vI x2)] [] h n Q) (kf : s0 ≠ 0 → Rn d bc bs mX12_found 23 [some (vR r0), some (vI x1), some (vI x2)] [] h n Q) : Rn d (bc) (bs) mX12_found 20 [some (vR r0), some (vI x1), some (vI x2)] [vI s0] h n Q := by
  refine Rn_ifeq (tgt := 33) dX12_found_20 rfl ?_ ?_
  · exact kt
  · exact kf
theorem BX12_found_23 {d bc bs : Nat} {h : aH} {n : Nat} {Q : aQ} {r0 : Option Nat} {x1 x2 : Int} (k : Rn d 0 0 mX12_within 0 [some (vI x2), some (vI 1), some (vI 60)] [] h n (fun v h1 n1 => Rn (d + 1) bc bs mX12_found 30 [some (vR r0), some (vI x1), some (vI x2)] (v.toList ++ []) h1 n1 Q)) : Rn (d + 1) (bc) (bs) mX12_found 23 [some (vR r0), some (vI x1), some (vI x2)] [] h n Q := by
  refine Rn_iload_n dX12_found_23 rfl rfl ?_
  refine Rn_iconst dX12_found_24 rfl ?_
  refine Rn_bipush dX12_found_25 rfl ?_
  exact Rn_callS (avs := [vI x2, vI 1, vI 60]) (st := []) (bc1 := 0) (bs1 := 0) (bc2 := bc) (bs2 := bs) fx_X12_within dX12_found_27 (Or.inl wd_502) wd_503 rfl (Nat.le_of_ble_eq_true rfl) (Nat.le_of_ble_eq_true rfl) (by omega) (by omega) (ls1 := [some (vI x2), some (vI 1), some (vI 60)]) rfl k
theorem BX12_found_30 {d bc bs : Nat} {h : aH} {n : Nat} {Q : aQ} {r0 : Option Nat} {x1 x2 s0 : Int} (kt : s0 ≠ 0 → Rn d bc bs mX12_found 36 [some (vR r0), some (vI x1), some (vI x2)] [] h n Q) (kf : s0 = 0 → Rn d bc bs mX12_found 33 [some (vR r0), some (vI x1), some (vI x2)] [] h n Q) : Rn d (bc) (bs) mX12_found 30 [some (vR r0), some (vI x1), some (vI x2)] [vI s0] h n Q := by
  refine Rn_ifne (tgt := 36) dX12_found_30 rfl ?_ ?_
  · exact kt
  · exact kf
theorem BX12_found_33 {d bc bs : Nat} {h : aH} {n : Nat} {Q : aQ} {r0 : Option Nat} {x1 x2 : Int} (k : Q (some (vI (-2))) h n) : Rn d (bc) (bs) mX12_found 33 [some (vR r0), some (vI x1), some (vI x2)] [] h n Q := by
  refine Rn_bipush dX12_found_33 rfl ?_
  exact Rn_ireturn rfl dX12_found_35 k
theorem BX12_found_36 {d bc bs : Nat} {h : aH} {n : Nat} {Q : aQ} {ar0 at3 at7 : Nat} {x1 x2 : Int} {f1 f5 f9 : List aV} (h2 : h ar0 = cO 12 f1) (g4 : f1[0]? = some (vR (some at3))) (h6 : h at3 = cO 11 f5) (g8 : f5[3]? = some (vR (some at7))) (h10 : h at7 = cO 5 f9) (k : Rn d 0 0 mX5_addFound 0 [some (vR (some at7)), some (vI x1), some (vI x2)] [] h n (fun v h1 n1 => Rn (d + 1) bc bs mX12_found 48 [some (vR (some ar0)), some (vI x1), some (vI x2)] (v.toList ++ []) h1 n1 Q)) : Rn (d + 1) (bc) (bs) mX12_found 36 [some (vR (some ar0)), some (vI x1), some (vI x2)] [] h n Q := by
  refine Rn_aload_n dX12_found_36 rfl rfl rfl ?_
  refine Rn_getfield (ci := 12) (k := 0) dX12_found_37 rfl in_12 (Nat.le_of_ble_eq_true rfl) wd_460 rfl h2 g4 ?_
  refine Rn_getfield (ci := 11) (k := 3) dX12_found_40 rfl in_11 (Nat.le_of_ble_eq_true rfl) wd_299 rfl h6 g8 ?_
  refine Rn_iload_n dX12_found_43 rfl rfl ?_
  refine Rn_iload_n dX12_found_44 rfl rfl ?_
  exact Rn_callV (ci := 5) (avs := [vI x1, vI x2]) (st := []) (bc1 := 0) (bs1 := 0) (bc2 := bc) (bs2 := bs) fx_X5_addFound dX12_found_45 wd_1124 wd_1125 wd_1126 rfl h10 rfl (Nat.le_of_ble_eq_true rfl) (Nat.le_of_ble_eq_true rfl) (by omega) (by omega) (ls1 := [some (vR (some at7)), some (vI x1), some (vI x2)]) rfl k
theorem BX12_found_48 {d bc bs : Nat} {h : aH} {n : Nat} {Q : aQ} {r0 : Option Nat} {x1 x2 s0 : Int} (k : Q (some (vI s0)) h n) : Rn d (bc) (bs) mX12_found 48 [some (vR r0), some (vI x1), some (vI x2)] [vI s0] h n Q := by
  exact Rn_ireturn rfl dX12_found_48 k
theorem dX12_tossed_0 : decode cX12_tossed 0 = .ok (.iload_n 1, 1) := by decide +kernel
theorem dX12_tossed_1 : decode cX12_tossed 1 = .ok (.iconst 0, 1) := by decide +kernel
theorem dX12_tossed_2 : decode cX12_tossed 2 = .ok (.iconst 1, 1) := by decide +kernel
theorem dX12_tossed_3 : decode cX12_tossed 3 = .ok (.invokestatic 93, 3) := by decide +kernel
theorem dX12_tossed_6 : decode cX12_tossed 6 = .ok (.ifCond .ne 5, 3) := by decide +kernel
theorem dX12_tossed_9 : decode cX12_tossed 9 = .ok (.iconst (-1), 1) := by decide +kernel
theorem dX12_tossed_10 : decode cX12_tossed 10 = .ok (.ireturn, 1) := by decide +kernel
theorem dX12_tossed_11 : decode cX12_tossed 11 = .ok (.iconst 0, 1) := by decide +kernel
theorem dX12_tossed_12 : decode cX12_tossed 12 = .ok (.istore_n 2, 1) := by decide +kernel
theorem dX12_tossed_13 : decode cX12_tossed 13 = .ok (.iconst 0, 1) := by decide +kernel
theorem dX12_tossed_14 : decode cX12_tossed 14 = .ok (.istore_n 3, 1) := by decide +kernel
theorem dX12_tossed_15 : decode cX12_tossed 15 = .ok (.iconst 0, 1) := by decide +kernel
theorem dX12_tossed_16 : decode cX12_tossed 16 = .ok (.istore 4, 2) := by decide +kernel
theorem dX12_tossed_18 : decode cX12_tossed 18 = .ok (.iload 4, 2) := by decide +kernel
theorem dX12_tossed_20 : decode cX12_tossed 20 = .ok (.bipush 10, 2) := by decide +kernel
theorem dX12_tossed_22 : decode cX12_tossed 22 = .ok (.if_icmp .ge 61, 3) := by decide +kernel
theorem dX12_tossed_25 : decode cX12_tossed 25 = .ok (.iconst 0, 1) := by decide +kernel
theorem dX12_tossed_26 : decode cX12_tossed 26 = .ok (.istore 5, 2) := by decide +kernel
theorem dX12_tossed_28 : decode cX12_tossed 28 = .ok (.iload 5, 2) := by decide +kernel
theorem dX12_tossed_30 : decode cX12_tossed 30 = .ok (.iconst 3, 1) := by decide +kernel
theorem dX12_tossed_31 : decode cX12_tossed 31 = .ok (.if_icmp .ge 46, 3) := by decide +kernel
theorem dX12_tossed_34 : decode cX12_tossed 34 = .ok (.aload_n 0, 1) := by decide +kernel
theorem dX12_tossed_35 : decode cX12_tossed 35 = .ok (.getfield 10, 3) := by decide +kernel
theorem dX12_tossed_38 : decode cX12_tossed 38 = .ok (.getfield 263, 3) := by decide +kernel
theorem dX12_tossed_41 : decode cX12_tossed 41 = .ok (.aload_n 0, 1) := by decide +kernel
theorem dX12_tossed_42 : decode cX12_tossed 42 = .ok (.getfield 10, 3) := by decide +kernel
theorem dX12_tossed_45 : decode cX12_tossed 45 = .ok (.getfield 68, 3) := by decide +kernel
theorem dX12_tossed_48 : decode cX12_tossed 48 = .ok (.iload 4, 2) := by decide +kernel
theorem dX12_tossed_50 : decode cX12_tossed 50 = .ok (.iload 5, 2) := by decide +kernel
theorem dX12_tossed_52 : decode cX12_tossed 52 = .ok (.invokevirtual 308, 3) := by decide +kernel
theorem dX12_tossed_55 : decode cX12_tossed 55 = .ok (.ifCond .ne 6, 3) := by decide +kernel
theorem dX12_tossed_58 : decode cX12_tossed 58 = .ok (.goto 13, 3) := by decide +kernel
theorem dX12_tossed_61 : decode cX12_tossed 61 = .ok (.iload_n 2, 1) := by decide +kernel
theorem dX12_tossed_62 : decode cX12_tossed 62 = .ok (.iconst 1, 1) := by decide +kernel
theorem dX12_tossed_63 : decode cX12_tossed 63 = .ok (.iload 4, 2) := by decide +kernel
theorem dX12_tossed_65 : decode cX12_tossed 65 = .ok (.ishl, 1) := by decide +kernel
theorem dX12_tossed_66 : decode cX12_tossed 66 = .ok (.ior, 1) := by decide +kernel
theorem dX12_tossed_67 : decode cX12_tossed 67 = .ok (.istore_n 2, 1) := by decide +kernel
theorem dX12_tossed_68 : decode cX12_tossed 68 = .ok (.iinc 3 1, 3) := by decide +kernel
theorem dX12_tossed_71 : decode cX12_tossed 71 = .ok (.iinc 5 1, 3) := by decide +kernel
theorem dX12_tossed_74 : decode cX12_tossed 74 = .ok (.goto (-46), 3) := by decide +kernel
theorem dX12_tossed_77 : decode cX12_tossed 77 = .ok (.iinc 4 1, 3) := by decide +kernel
theorem dX12_tossed_80 : decode cX12_tossed 80 = .ok (.goto (-62), 3) := by decide +kernel
theorem dX12_tossed_83 : decode cX12_tossed 83 = .ok (.iload_n 1, 1) := by decide +kernel
theorem dX12_tossed_84 : decode cX12_tossed 84 = .ok (.ifCond .ne 7, 3) := by decide +kernel
theorem dX12_tossed_87 : decode cX12_tossed 87 = .ok (.iload_n 2, 1) := by decide +kernel
theorem dX12_tossed_88 : decode cX12_tossed 88 = .ok (.goto 4, 3) := by decide +kernel
theorem dX12_tossed_91 : decode cX12_tossed 91 = .ok (.iload_n 3, 1) := by decide +kernel
theorem dX12_tossed_92 : decode cX12_tossed 92 = .ok (.ireturn, 1) := by decide +kernel
theorem BX12_tossed_0 {d bc bs : Nat} {h : aH} {n : Nat} {Q : aQ} {r0 : Option Nat} {x1 : Int} {l2 l3 l4 l5 : Option aV} (k : Rn d 0 0 mX12_within 0 [some (vI x1), some (vI 0), some (vI 1)] [] h n (fun v h1 n1 => Rn (d + 1) bc bs mX12_tossed 6 [some (vR r0), some (vI x1), l2, l3, l4, l5] (v.toList ++ []) h1 n1 Q)) : Rn (d + 1) (bc) (bs) mX12_tossed 0 [some (vR r0), some (vI x1), l2, l3, l4, l5] [] h n Q := by
  refine Rn_iload_n dX12_tossed_0 rfl rfl ?_
  refine Rn_iconst dX12_tossed_1 rfl ?_
  refine Rn_iconst dX12_tossed_2 rfl ?_
  exact Rn_callS (avs := [vI x1, vI 0, vI 1]) (st := []) (bc1 := 0) (bs1 := 0) (bc2 := bc) (bs2 := bs) fx_X12_within dX12_tossed_3 (Or.inl wd_502) wd_503 rfl (Nat.le_of_ble_eq_true rfl) (Nat.le_of_ble_eq_true rfl) (by omega) (by omega) (ls1 := [some (vI x1), some (vI 0), some (vI 1)]) rfl k
theorem BX12_tossed_6 {d bc bs : Nat} {h : aH} {n : Nat} {Q : aQ} {r0 : Option Nat} {x1 s0 : Int} {l2 l3 l4 l5 : Option aV} (kt : s0 ≠ 0 → Rn d bc bs mX12_tossed 11 [some (vR r0), some (vI x1), l2, l3, l4, l5] [] h n Q) (kf : s0 = 0 → Rn d bc bs mX12_tossed 9 [some (vR r0), some (vI x1), l2, l3, l4, l5] [] h n Q) : Rn d (bc) (bs) mX12_tossed 6 [some (vR r0), some (vI x1), l2, l3, l4, l5] [vI s0] h n Q := by
  refine Rn_ifne (tgt := 11) dX12_tossed_6 rfl ?_ ?_
  · exact kt
  · exact kf
theorem BX12_tossed_9 {d bc bs : Nat} {h : aH} {n : Nat} {Q : aQ} {r0 : Option Nat} {x1 : Int} {l2 l3 l4 l5 : Option aV} (k : Q (some (vI (-1))) h n) : Rn d (bc) (bs) mX12_tossed 9 [some (vR r0), some (vI x1), l2, l3, l4, l5] [] h n Q := by
  refine Rn_iconst dX12_tossed_9 rfl ?_
  exact Rn_ireturn rfl dX12_tossed_10 k
theorem BX12_tossed_11 {d bc bs : Nat} {h : aH} {n : Nat} {Q : aQ} {r0 : Option Nat} {x1 : Int} {l2 l3 l4 l5 : Option aV} (k : Rn d bc bs mX12_tossed 18 [some (vR r0), some (vI x1), some (vI 0), some (vI 0), some (vI 0), l5] [] h n Q) : Rn d (bc) (bs) mX12_tossed 11 [some (vR r0), some (vI x1), l2, l3, l4, l5] [] h n Q := by
  refine Rn_iconst dX12_tossed_11 rfl ?_
  refine Rn_istore_n dX12_tossed_12 rfl (Nat.le_of_ble_eq_true rfl) rfl rfl ?_
  refine Rn_iconst dX12_tossed_13 rfl ?_
  refine Rn_istore_n dX12_tossed_14 rfl (Nat.le_of_ble_eq_true rfl) rfl rfl ?_
  refine Rn_iconst dX12_tossed_15 rfl ?_
  refine Rn_istore dX12_tossed_16 (Nat.le_of_ble_eq_true rfl) rfl rfl ?_
  exact k
theorem BX12_tossed_18 {d bc bs : Nat} {h : aH} {n : Nat} {Q : aQ} {r0 : Option Nat} {x1 x2 x3 x4 : Int} {l5 : Option aV} (kt : 10 ≤ x4 → Rn d bc bs mX12_tossed 83 [some (vR r0), some (vI x1), some (vI x2), some (vI x3), some (vI x4), l5] [] h n Q) (kf : x4 < 10 → Rn d bc bs mX12_tossed 25 [some (vR r0), some (vI x1), some (vI x2), some (vI x3), some (vI x4), l5] [] h n Q) : Rn d (bc) (bs) mX12_tossed 18 [some (vR r0), some (vI x1), some (vI x2), some (vI x3), some (vI x4), l5] [] h n Q := by
  refine Rn_iload dX12_tossed_18 rfl ?_
  refine Rn_bipush dX12_tossed_20 rfl ?_
  refine Rn_icmpge (tgt := 83) dX12_tossed_22 rfl ?_ ?_
  · exact kt
  · exact kf
theorem BX12_tossed_25 {d bc bs : Nat} {h : aH} {n : Nat} {Q : aQ} {r0 : Option Nat} {x1 x2 x3 x4 : Int} {l5 : Option aV} (k : Rn d bc bs mX12_tossed 28 [some (vR r0), some (vI x1), some (vI x2), some (vI x3), some (vI x4), some (vI 0)] [] h n Q) : Rn d (bc) (bs) mX12_tossed 25 [some (vR r0), some (vI x1), some (vI x2), some (vI x3), some (vI x4), l5] [] h n Q := by
  refine Rn_iconst dX12_tossed_25 rfl ?_
  refine Rn_istore dX12_tossed_26 (Nat.le_of_ble_eq_true rfl) rfl rfl ?_
  exact k
theorem BX12_tossed_28 {d bc bs : Nat} {h : aH} {n : Nat} {Q : aQ} {r0 : Option Nat} {x1 x2 x3 x4 x5 : Int} (kt : 3 ≤ x5 → Rn d bc bs mX12_tossed 77 [some (vR r0), some (vI x1), some (vI x2), some (vI x3), some (vI x4), some (vI x5)] [] h n Q) (kf : x5 < 3 → Rn d bc bs mX12_tossed 34 [some (vR r0), some (vI x1), some (vI x2), some (vI x3), some (vI x4), some (vI x5)] [] h n Q) : Rn d (bc) (bs) mX12_tossed 28 [some (vR r0), some (vI x1), some (vI x2), some (vI x3), some (vI x4), some (vI x5)] [] h n Q := by
  refine Rn_iload dX12_tossed_28 rfl ?_
  refine Rn_iconst dX12_tossed_30 rfl ?_
  refine Rn_icmpge (tgt := 77) dX12_tossed_31 rfl ?_ ?_
  · exact kt
  · exact kf
theorem BX12_tossed_34 {d bc bs : Nat} {h : aH} {n : Nat} {Q : aQ} {ar0 at3 at7 : Nat} {x1 x2 x3 x4 x5 : Int} {f1 f5 f11 : List aV} {t9 : Option Nat} (h2 : h ar0 = cO 12 f1) (g4 : f1[0]? = some (vR (some at3))) (h6 : h at3 = cO 11 f5) (g8 : f5[3]? = some (vR (some at7))) (g10 : f5[0]? = some (vR t9)) (h12 : h at7 = cO 5 f11) (k : Rn d 0 0 mX5_allFoundFrom 0 [some (vR (some at7)), some (vR t9), some (vI x4), some (vI x5), none] [] h n (fun v h1 n1 => Rn (d + 1) bc bs mX12_tossed 55 [some (vR (some ar0)), some (vI x1), some (vI x2), some (vI x3), some (vI x4), some (vI x5)] (v.toList ++ []) h1 n1 Q)) : Rn (d + 1) (bc) (bs) mX12_tossed 34 [some (vR (some ar0)), some (vI x1), some (vI x2), some (vI x3), some (vI x4), some (vI x5)] [] h n Q := by
  refine Rn_aload_n dX12_tossed_34 rfl rfl rfl ?_
  refine Rn_getfield (ci := 12) (k := 0) dX12_tossed_35 rfl in_12 (Nat.le_of_ble_eq_true rfl) wd_460 rfl h2 g4 ?_
  refine Rn_getfield (ci := 11) (k := 3) dX12_tossed_38 rfl in_11 (Nat.le_of_ble_eq_true rfl) wd_299 rfl h6 g8 ?_
  refine Rn_aload_n dX12_tossed_41 rfl rfl rfl ?_
  refine Rn_getfield (ci := 12) (k := 0) dX12_tossed_42 rfl in_12 (Nat.le_of_ble_eq_true rfl) wd_460 rfl h2 g4 ?_
  refine Rn_getfield (ci := 11) (k := 0) dX12_tossed_45 rfl in_11 (Nat.le_of_ble_eq_true rfl) wd_293 rfl h6 g10 ?_
  refine Rn_iload dX12_tossed_48 rfl ?_
  refine Rn_iload dX12_tossed_50 rfl ?_
  exact Rn_callV (ci := 5) (avs := [vR t9, vI x4, vI x5]) (st := []) (bc1 := 0) (bs1 := 0) (bc2 := bc) (bs2 := bs) fx_X5_allFoundFrom dX12_tossed_52 wd_1133 wd_1134 wd_1135 rfl h12 rfl (Nat.le_of_ble_eq_true rfl) (Nat.le_of_ble_eq_true rfl) (by omega) (by omega) (ls1 := [some (vR (some at7)), some (vR t9), some (vI x4), some (vI x5), none]) rfl k
theorem BX12_tossed_55 {d bc bs : Nat} {h : aH} {n : Nat} {Q : aQ} {r0 : Option Nat} {x1 x2 x3 x4 x5 s0 : Int} (kt : s0 ≠ 0 → Rn d bc bs mX12_tossed 61 [some (vR r0), some (vI x1), some (vI x2), some (vI x3), some (vI x4), some (vI x5)] [] h n Q) (kf : s0 = 0 → Rn d bc bs mX12_tossed 58 [some (vR r0), some (vI x1), some (vI x2), some (vI x3), some (vI x4), some (vI x5)] [] h n Q) : Rn d (bc) (bs) mX12_tossed 55 [some (vR r0), some (vI x1), some (vI x2), some (vI x3), some (vI x4), some (vI x5)] [vI s0] h n Q := by
  refine Rn_ifne (tgt := 61) dX12_tossed_55 rfl ?_ ?_
  · exact kt
  · exact kf
theorem BX12_tossed_58 {d bc bs : Nat} {h : aH} {n : Nat} {Q : aQ} {r0 : Option Nat} {x1 x2 x3 x4 x5 : Int} (b1 : -2147483648 ≤ x5 + 1 ∧ x5 + 1 < 2147483648) (k : Rn d bc bs mX12_tossed 28 [some (vR r0), some (vI x1), some (vI x2), some (vI x3), some (vI x4), some (vI (x5 + 1))] [] h n Q) : Rn d (bc) (bs) mX12_tossed 58 [some (vR r0), some (vI x1), some (vI x2), some (vI x3), some (vI x4), some (vI x5)] [] h n Q := by
  refine Rn_goto (tgt := 71) dX12_tossed_58 rfl ?_
  refine Rn_iinc dX12_tossed_71 rfl (Nat.le_of_ble_eq_true rfl) rfl rfl rfl ?_
  rw [w32_id b1.1 b1.2]
  refine Rn_goto (tgt := 28) dX12_tossed_74 rfl ?_
  exact k
theorem BX12_tossed_61 {d bc bs : Nat} {h : aH} {n : Nat} {Q : aQ} {r0 : Option Nat} {x1 x2 x3 x4 x5 : Int} (b1 : -2147483648 ≤ x3 + 1 ∧ x3 + 1 < 2147483648) (b2 : -2147483648 ≤ x5 + 1 ∧ x5 + 1 < 2147483648) (k : Rn d bc bs mX12_tossed 28 [some (vR r0), some (vI x1), some (vI (or32 x2 (shl32 1 x4))), some (vI (x3 + 1)), some (vI x4), some (vI (x5 + 1))] [] h n Q) : Rn d (bc) (bs) mX12_tossed 61 [some (vR r0), some (vI x1), some (vI x2), some (vI x3), some (vI x4), some (vI x5)] [] h n Q := by
  refine Rn_iload_n dX12_tossed_61 rfl rfl ?_
  refine Rn_iconst dX12_tossed_62 rfl ?_
  refine Rn_iload dX12_tossed_63 rfl ?_
  refine Rn_ishl dX12_tossed_65 ?_
  refine Rn_ior dX12_tossed_66 ?_
  refine Rn_istore_n dX12_tossed_67 rfl (Nat.le_of_ble_eq_true rfl) rfl rfl ?_
  refine Rn_iinc dX12_tossed_68 rfl (Nat.le_of_ble_eq_true rfl) rfl rfl rfl ?_
  rw [w32_id b1.1 b1.2]
  refine Rn_iinc dX12_tossed_71 rfl (Nat.le_of_ble_eq_true rfl) rfl rfl rfl ?_
  rw [w32_id b2.1 b2.2]
  refine Rn_goto (tgt := 28) dX12_tossed_74 rfl ?_
  exact k
theorem BX12_tossed_77 {d bc bs : Nat} {h : aH} {n : Nat} {Q : aQ} {r0 : Option Nat} {x1 x2 x3 x4 x5 : Int} (b1 : -2147483648 ≤ x4 + 1 ∧ x4 + 1 < 2147483648) (k : Rn d bc bs mX12_tossed 18 [some (vR r0), some (vI x1), some (vI x2), some (vI x3), some (vI (x4 + 1)), some (vI x5)] [] h n Q) : Rn d (bc) (bs) mX12_tossed 77 [some (vR r0), some (vI x1), some (vI x2), some (vI x3), some (vI x4), some (vI x5)] [] h n Q := by
  refine Rn_iinc dX12_tossed_77 rfl (Nat.le_of_ble_eq_true rfl) rfl rfl rfl ?_
  rw [w32_id b1.1 b1.2]
  refine Rn_goto (tgt := 18) dX12_tossed_80 rfl ?_
  exact k
theorem BX12_tossed_83 {d bc bs : Nat} {h : aH} {n : Nat} {Q : aQ} {r0 : Option Nat} {x1 x2 x3 x4 : Int} {l5 : Option aV} (kt : x1 ≠ 0 → Rn d bc bs mX12_tossed 91 [some (vR r0), some (vI x1), some (vI x2), some (vI x3), some (vI x4), l5] [] h n Q) (kf : x1 = 0 → Rn d bc bs mX12_tossed 87 [some (vR r0), some (vI x1), some (vI x2), some (vI x3), some (vI x4), l5] [] h n Q) : Rn d (bc) (bs) mX12_tossed 83 [some (vR r0), some (vI x1), some (vI x2), some (vI x3), some (vI x4), l5] [] h n Q := by
  refine Rn_iload_n dX12_tossed_83 rfl rfl ?_
  refine Rn_ifne (tgt := 91) dX12_tossed_84 rfl ?_ ?_
  · exact kt
  · exact kf
theorem BX12_tossed_87 {d bc bs : Nat} {h : aH} {n : Nat} {Q : aQ} {r0 : Option Nat} {x1 x2 x3 x4 : Int} {l5 : Option aV} (k : Q (some (vI x2)) h n) : Rn d (bc) (bs) mX12_tossed 87 [some (vR r0), some (vI x1), some (vI x2), some (vI x3), some (vI x4), l5] [] h n Q := by
  refine Rn_iload_n dX12_tossed_87 rfl rfl ?_
  refine Rn_goto (tgt := 92) dX12_tossed_88 rfl ?_
  exact Rn_ireturn rfl dX12_tossed_92 k
theorem BX12_tossed_91 {d bc bs : Nat} {h : aH} {n : Nat} {Q : aQ} {r0 : Option Nat} {x1 x2 x3 x4 : Int} {l5 : Option aV} (k : Q (some (vI x3)) h n) : Rn d (bc) (bs) mX12_tossed 91 [some (vR r0), some (vI x1), some (vI x2), some (vI x3), some (vI x4), l5] [] h n Q := by
  refine Rn_iload_n dX12_tossed_91 rfl rfl ?_
  exact Rn_ireturn rfl dX12_tossed_92 k
theorem dX12_likely_0 : decode cX12_likely 0 = .ok (.iload_n 1, 1) := by decide +kernel
theorem dX12_likely_1 : decode cX12_likely 1 = .ok (.invokestatic 235, 3) := by decide +kernel
theorem dX12_likely_4 : decode cX12_likely 4 = .ok (.ifCond .eq 27, 3) := by decide +kernel
theorem dX12_likely_7 : decode cX12_likely 7 = .ok (.aload_n 0, 1) := by decide +kernel
theorem dX12_likely_8 : decode cX12_likely 8 = .ok (.getfield 10, 3) := by decide +kernel
theorem dX12_likely_11 : decode cX12_likely 11 = .ok (.getfield 68, 3) := by decide +kernel
theorem dX12_likely_14 : decode cX12_likely 14 = .ok (.iload_n 2, 1) := by decide +kernel
theorem dX12_likely_15 : decode cX12_likely 15 = .ok (.invokevirtual 175, 3) := by decide +kernel
theorem dX12_likely_18 : decode cX12_likely 18 = .ok (.ifCond .eq 13, 3) := by decide +kernel
theorem dX12_likely_21 : decode cX12_likely 21 = .ok (.iload_n 3, 1) := by decide +kernel
theorem dX12_likely_22 : decode cX12_likely 22 = .ok (.iconst 1, 1) := by decide +kernel
theorem dX12_likely_23 : decode cX12_likely 23 = .ok (.bipush 8, 2) := by decide +kernel
theorem dX12_likely_25 : decode cX12_likely 25 = .ok (.invokestatic 93, 3) := by decide +kernel
theorem dX12_likely_28 : decode cX12_likely 28 = .ok (.ifCond .ne 7, 3) := by decide +kernel
theorem dX12_likely_31 : decode cX12_likely 31 = .ok (.ldc2_w 312, 3) := by decide +kernel
theorem dX12_likely_34 : decode cX12_likely 34 = .ok (.lreturn, 1) := by decide +kernel
theorem dX12_likely_35 : decode cX12_likely 35 = .ok (.lconst 0, 1) := by decide +kernel
theorem dX12_likely_36 : decode cX12_likely 36 = .ok (.lstore 5, 2) := by decide +kernel
theorem dX12_likely_38 : decode cX12_likely 38 = .ok (.lconst 1, 1) := by decide +kernel
theorem dX12_likely_39 : decode cX12_likely 39 = .ok (.lstore 7, 2) := by decide +kernel
theorem dX12_likely_41 : decode cX12_likely 41 = .ok (.lconst 1, 1) := by decide +kernel
theorem dX12_likely_42 : decode cX12_likely 42 = .ok (.lstore 9, 2) := by decide +kernel
theorem dX12_likely_44 : decode cX12_likely 44 = .ok (.iload_n 1, 1) := by decide +kernel
theorem dX12_likely_45 : decode cX12_likely 45 = .ok (.istore 11, 2) := by decide +kernel
theorem dX12_likely_47 : decode cX12_likely 47 = .ok (.aload_n 0, 1) := by decide +kernel
theorem dX12_likely_48 : decode cX12_likely 48 = .ok (.getfield 10, 3) := by decide +kernel
theorem dX12_likely_51 : decode cX12_likely 51 = .ok (.getfield 263, 3) := by decide +kernel
theorem dX12_likely_54 : decode cX12_likely 54 = .ok (.getfield 314, 3) := by decide +kernel
theorem dX12_likely_57 : decode cX12_likely 57 = .ok (.istore 12, 2) := by decide +kernel
theorem dX12_likely_59 : decode cX12_likely 59 = .ok (.bipush 10, 2) := by decide +kernel
theorem dX12_likely_61 : decode cX12_likely 61 = .ok (.aload_n 0, 1) := by decide +kernel
theorem dX12_likely_62 : decode cX12_likely 62 = .ok (.getfield 10, 3) := by decide +kernel
theorem dX12_likely_65 : decode cX12_likely 65 = .ok (.getfield 263, 3) := by decide +kernel
theorem dX12_likely_68 : decode cX12_likely 68 = .ok (.getfield 317, 3) := by decide +kernel
theorem dX12_likely_71 : decode cX12_likely 71 = .ok (.isub, 1) := by decide +kernel
theorem dX12_likely_72 : decode cX12_likely 72 = .ok (.istore 13, 2) := by decide +kernel
theorem dX12_likely_74 : decode cX12_likely 74 = .ok (.iconst 0, 1) := by decide +kernel
theorem dX12_likely_75 : decode cX12_likely 75 = .ok (.istore 14, 2) := by decide +kernel
theorem dX12_likely_77 : decode cX12_likely 77 = .ok (.iload 14, 2) := by decide +kernel
theorem dX12_likely_79 : decode cX12_likely 79 = .ok (.iload_n 3, 1) := by decide +kernel
theorem dX12_likely_80 : decode cX12_likely 80 = .ok (.if_icmp .ge 113, 3) := by decide +kernel
theorem dX12_likely_83 : decode cX12_likely 83 = .ok (.aload_n 0, 1) := by decide +kernel
theorem dX12_likely_84 : decode cX12_likely 84 = .ok (.getfield 10, 3) := by decide +kernel
theorem dX12_likely_87 : decode cX12_likely 87 = .ok (.getfield 68, 3) := by decide +kernel
theorem dX12_likely_90 : decode cX12_likely 90 = .ok (.aload_n 0, 1) := by decide +kernel
theorem dX12_likely_91 : decode cX12_likely 91 = .ok (.getfield 10, 3) := by decide +kernel
theorem dX12_likely_94 : decode cX12_likely 94 = .ok (.getfield 128, 3) := by decide +kernel
theorem dX12_likely_97 : decode cX12_likely 97 = .ok (.getfield 131, 3) := by decide +kernel
theorem dX12_likely_100 : decode cX12_likely 100 = .ok (.iload 14, 2) := by decide +kernel
theorem dX12_likely_102 : decode cX12_likely 102 = .ok (.iadd, 1) := by decide +kernel
theorem dX12_likely_103 : decode cX12_likely 103 = .ok (.iload 11, 2) := by decide +kernel
theorem dX12_likely_105 : decode cX12_likely 105 = .ok (.invokevirtual 238, 3) := by decide +kernel
theorem dX12_likely_108 : decode cX12_likely 108 = .ok (.istore 11, 2) := by decide +kernel
theorem dX12_likely_110 : decode cX12_likely 110 = .ok (.iload 11, 2) := by decide +kernel
theorem dX12_likely_112 : decode cX12_likely 112 = .ok (.aload_n 0, 1) := by decide +kernel
theorem dX12_likely_113 : decode cX12_likely 113 = .ok (.getfield 10, 3) := by decide +kernel
theorem dX12_likely_116 : decode cX12_likely 116 = .ok (.getfield 68, 3) := by decide +kernel
theorem dX12_likely_119 : decode cX12_likely 119 = .ok (.iload_n 2, 1) := by decide +kernel
theorem dX12_likely_120 : decode cX12_likely 120 = .ok (.invokevirtual 181, 3) := by decide +kernel
theorem dX12_likely_123 : decode cX12_likely 123 = .ok (.if_icmp .ne 7, 3) := by decide +kernel
theorem dX12_likely_126 : decode cX12_likely 126 = .ok (.iconst 1, 1) := by decide +kernel
theorem dX12_likely_127 : decode cX12_likely 127 = .ok (.goto 4, 3) := by decide +kernel
theorem dX12_likely_130 : decode cX12_likely 130 = .ok (.iconst 0, 1) := by decide +kernel
theorem dX12_likely_131 : decode cX12_likely 131 = .ok (.istore 15, 2) := by decide +kernel
theorem dX12_likely_133 : decode cX12_likely 133 = .ok (.lload 5, 2) := by decide +kernel
theorem dX12_likely_135 : decode cX12_likely 135 = .ok (.ldc2_w 320, 3) := by decide +kernel
theorem dX12_likely_138 : decode cX12_likely 138 = .ok (.lmul, 1) := by decide +kernel
theorem dX12_likely_139 : decode cX12_likely 139 = .ok (.iload 15, 2) := by decide +kernel
theorem dX12_likely_141 : decode cX12_likely 141 = .ok (.ifCond .eq 12, 3) := by decide +kernel
theorem dX12_likely_144 : decode cX12_likely 144 = .ok (.lload 7, 2) := by decide +kernel
theorem dX12_likely_146 : decode cX12_likely 146 = .ok (.iload 12, 2) := by decide +kernel
theorem dX12_likely_148 : decode cX12_likely 148 = .ok (.i2l, 1) := by decide +kernel
theorem dX12_likely_149 : decode cX12_likely 149 = .ok (.lmul, 1) := by decide +kernel
theorem dX12_likely_150 : decode cX12_likely 150 = .ok (.goto 4, 3) := by decide +kernel
theorem dX12_likely_153 : decode cX12_likely 153 = .ok (.lconst 0, 1) := by decide +kernel
theorem dX12_likely_154 : decode cX12_likely 154 = .ok (.ladd, 1) := by decide +kernel
theorem dX12_likely_155 : decode cX12_likely 155 = .ok (.lstore 5, 2) := by decide +kernel
theorem dX12_likely_157 : decode cX12_likely 157 = .ok (.lload 7, 2) := by decide +kernel
theorem dX12_likely_159 : decode cX12_likely 159 = .ok (.iload 15, 2) := by decide +kernel
theorem dX12_likely_161 : decode cX12_likely 161 = .ok (.ifCond .eq 12, 3) := by decide +kernel
theorem dX12_likely_164 : decode cX12_likely 164 = .ok (.iload 13, 2) := by decide +kernel
theorem dX12_likely_166 : decode cX12_likely 166 = .ok (.iload 12, 2) := by decide +kernel
theorem dX12_likely_168 : decode cX12_likely 168 = .ok (.isub, 1) := by decide +kernel
theorem dX12_likely_169 : decode cX12_likely 169 = .ok (.i2l, 1) := by decide +kernel
theorem dX12_likely_170 : decode cX12_likely 170 = .ok (.goto 6, 3) := by decide +kernel
theorem dX12_likely_173 : decode cX12_likely 173 = .ok (.iload 13, 2) := by decide +kernel
theorem dX12_likely_175 : decode cX12_likely 175 = .ok (.i2l, 1) := by decide +kernel
theorem dX12_likely_176 : decode cX12_likely 176 = .ok (.lmul, 1) := by decide +kernel
theorem dX12_likely_177 : decode cX12_likely 177 = .ok (.lstore 7, 2) := by decide +kernel
theorem dX12_likely_179 : decode cX12_likely 179 = .ok (.lload 9, 2) := by decide +kernel
theorem dX12_likely_181 : decode cX12_likely 181 = .ok (.ldc2_w 320, 3) := by decide +kernel
theorem dX12_likely_184 : decode cX12_likely 184 = .ok (.lmul, 1) := by decide +kernel
theorem dX12_likely_185 : decode cX12_likely 185 = .ok (.lstore 9, 2) := by decide +kernel
theorem dX12_likely_187 : decode cX12_likely 187 = .ok (.iinc 14 1, 3) := by decide +kernel
theorem dX12_likely_190 : decode cX12_likely 190 = .ok (.goto (-113), 3) := by decide +kernel
theorem dX12_likely_193 : decode cX12_likely 193 = .ok (.lload 5, 2) := by decide +kernel
theorem dX12_likely_195 : decode cX12_likely 195 = .ok (.lload 9, 2) := by decide +kernel
theorem dX12_likely_197 : decode cX12_likely 197 = .ok (.invokestatic 322, 3) := by decide +kernel
theorem dX12_likely_200 : decode cX12_likely 200 = .ok (.lstore 14, 2) := by decide +kernel
theorem dX12_likely_202 : decode cX12_likely 202 = .ok (.lload 14, 2) := by decide +kernel
theorem dX12_likely_204 : decode cX12_likely 204 = .ok (.lconst 0, 1) := by decide +kernel
theorem dX12_likely_205 : decode cX12_likely 205 = .ok (.lcmp, 1) := by decide +kernel
theorem dX12_likely_206 : decode cX12_likely 206 = .ok (.ifCond .gt 7, 3) := by decide +kernel
theorem dX12_likely_209 : decode cX12_likely 209 = .ok (.ldc2_w 312, 3) := by decide +kernel
theorem dX12_likely_212 : decode cX12_likely 212 = .ok (.lreturn, 1) := by decide +kernel
theorem dX12_likely_213 : decode cX12_likely 213 = .ok (.iload 4, 2) := by decide +kernel
theorem dX12_likely_215 : decode cX12_likely 215 = .ok (.ifCond .eq 11, 3) := by decide +kernel
theorem dX12_likely_218 : decode cX12_likely 218 = .ok (.lload 9, 2) := by decide +kernel
theorem dX12_likely_220 : decode cX12_likely 220 = .ok (.lload 14, 2) := by decide +kernel
theorem dX12_likely_222 : decode cX12_likely 222 = .ok (.ldiv, 1) := by decide +kernel
theorem dX12_likely_223 : decode cX12_likely 223 = .ok (.goto 8, 3) := by decide +kernel
theorem dX12_likely_226 : decode cX12_likely 226 = .ok (.lload 5, 2) := by decide +kernel
theorem dX12_likely_228 : decode cX12_likely 228 = .ok (.lload 14, 2) := by decide +kernel
theorem dX12_likely_230 : decode cX12_likely 230 = .ok (.ldiv, 1) := by decide +kernel
theorem dX12_likely_231 : decode cX12_likely 231 = .ok (.lreturn, 1) := by decide +kernel
theorem BX12_likely_0 {d bc bs : Nat} {h : aH} {n : Nat} {Q : aQ} {r0 : Option Nat} {x1 x2 x3 x4 : Int} {l5 l6 l7 l8 l9 l10 l11 l12 l13 l14 l15 : Option aV} (k : Rn d 0 0 mX12_isPlace 0 [some (vI x1)] [] h n (fun v h1 n1 => Rn (d + 1) bc bs mX12_likely 4 [some (vR r0), some (vI x1), some (vI x2), some (vI x3), some (vI x4), l5, l6, l7, l8, l9, l10, l11, l12, l13, l14, l15] (v.toList ++ []) h1 n1 Q)) : Rn (d + 1) (bc) (bs) mX12_likely 0 [some (vR r0), some (vI x1), some (vI x2), some (vI x3), some (vI x4), l5, l6, l7, l8, l9, l10, l11, l12, l13, l14, l15] [] h n Q := by
  refine Rn_iload_n dX12_likely_0 rfl rfl ?_
  exact Rn_callS (avs := [vI x1]) (st := []) (bc1 := 0) (bs1 := 0) (bc2 := bc) (bs2 := bs) fx_X12_isPlace dX12_likely_1 (Or.inl wd_1009) wd_500 rfl (Nat.le_of_ble_eq_true rfl) (Nat.le_of_ble_eq_true rfl) (by omega) (by omega) (ls1 := [some (vI x1)]) rfl k
theorem BX12_likely_4 {d bc bs : Nat} {h : aH} {n : Nat} {Q : aQ} {r0 : Option Nat} {x1 x2 x3 x4 s0 : Int} {l5 l6 l7 l8 l9 l10 l11 l12 l13 l14 l15 : Option aV} (kt : s0 = 0 → Rn d bc bs mX12_likely 31 [some (vR r0), some (vI x1), some (vI x2), some (vI x3), some (vI x4), l5, l6, l7, l8, l9, l10, l11, l12, l13, l14, l15] [] h n Q) (kf : s0 ≠ 0 → Rn d bc bs mX12_likely 7 [some (vR r0), some (vI x1), some (vI x2), some (vI x3), some (vI x4), l5, l6, l7, l8, l9, l10, l11, l12, l13, l14, l15] [] h n Q) : Rn d (bc) (bs) mX12_likely 4 [some (vR r0), some (vI x1), some (vI x2), some (vI x3), some (vI x4), l5, l6, l7, l8, l9, l10, l11, l12, l13, l14, l15] [vI s0] h n Q := by
  refine Rn_ifeq (tgt := 31) dX12_likely_4 rfl ?_ ?_
  · exact kt
  · exact kf
theorem BX12_likely_7 {d bc bs : Nat} {h : aH} {n : Nat} {Q : aQ} {ar0 at3 at7 : Nat} {x1 x2 x3 x4 : Int} {l5 l6 l7 l8 l9 l10 l11 l12 l13 l14 l15 : Option aV} {f1 f5 f9 : List aV} (h2 : h ar0 = cO 12 f1) (g4 : f1[0]? = some (vR (some at3))) (h6 : h at3 = cO 11 f5) (g8 : f5[0]? = some (vR (some at7))) (h10 : h at7 = cO 7 f9) (k : Rn d 0 0 mX7_hasPerson 0 [some (vR (some at7)), some (vI x2)] [] h n (fun v h1 n1 => Rn (d + 1) bc bs mX12_likely 18 [some (vR (some ar0)), some (vI x1), some (vI x2), some (vI x3), some (vI x4), l5, l6, l7, l8, l9, l10, l11, l12, l13, l14, l15] (v.toList ++ []) h1 n1 Q)) : Rn (d + 1) (bc) (bs) mX12_likely 7 [some (vR (some ar0)), some (vI x1), some (vI x2), some (vI x3), some (vI x4), l5, l6, l7, l8, l9, l10, l11, l12, l13, l14, l15] [] h n Q := by
  refine Rn_aload_n dX12_likely_7 rfl rfl rfl ?_
  refine Rn_getfield (ci := 12) (k := 0) dX12_likely_8 rfl in_12 (Nat.le_of_ble_eq_true rfl) wd_460 rfl h2 g4 ?_
  refine Rn_getfield (ci := 11) (k := 0) dX12_likely_11 rfl in_11 (Nat.le_of_ble_eq_true rfl) wd_293 rfl h6 g8 ?_
  refine Rn_iload_n dX12_likely_14 rfl rfl ?_
  exact Rn_callV (ci := 7) (avs := [vI x2]) (st := []) (bc1 := 0) (bs1 := 0) (bc2 := bc) (bs2 := bs) fx_X7_hasPerson dX12_likely_15 wd_781 wd_782 wd_783 rfl h10 rfl (Nat.le_of_ble_eq_true rfl) (Nat.le_of_ble_eq_true rfl) (by omega) (by omega) (ls1 := [some (vR (some at7)), some (vI x2)]) rfl k
theorem BX12_likely_18 {d bc bs : Nat} {h : aH} {n : Nat} {Q : aQ} {r0 : Option Nat} {x1 x2 x3 x4 s0 : Int} {l5 l6 l7 l8 l9 l10 l11 l12 l13 l14 l15 : Option aV} (kt : s0 = 0 → Rn d bc bs mX12_likely 31 [some (vR r0), some (vI x1), some (vI x2), some (vI x3), some (vI x4), l5, l6, l7, l8, l9, l10, l11, l12, l13, l14, l15] [] h n Q) (kf : s0 ≠ 0 → Rn d bc bs mX12_likely 21 [some (vR r0), some (vI x1), some (vI x2), some (vI x3), some (vI x4), l5, l6, l7, l8, l9, l10, l11, l12, l13, l14, l15] [] h n Q) : Rn d (bc) (bs) mX12_likely 18 [some (vR r0), some (vI x1), some (vI x2), some (vI x3), some (vI x4), l5, l6, l7, l8, l9, l10, l11, l12, l13, l14, l15] [vI s0] h n Q := by
  refine Rn_ifeq (tgt := 31) dX12_likely_18 rfl ?_ ?_
  · exact kt
  · exact kf
theorem BX12_likely_21 {d bc bs : Nat} {h : aH} {n : Nat} {Q : aQ} {r0 : Option Nat} {x1 x2 x3 x4 : Int} {l5 l6 l7 l8 l9 l10 l11 l12 l13 l14 l15 : Option aV} (k : Rn d 0 0 mX12_within 0 [some (vI x3), some (vI 1), some (vI 8)] [] h n (fun v h1 n1 => Rn (d + 1) bc bs mX12_likely 28 [some (vR r0), some (vI x1), some (vI x2), some (vI x3), some (vI x4), l5, l6, l7, l8, l9, l10, l11, l12, l13, l14, l15] (v.toList ++ []) h1 n1 Q)) : Rn (d + 1) (bc) (bs) mX12_likely 21 [some (vR r0), some (vI x1), some (vI x2), some (vI x3), some (vI x4), l5, l6, l7, l8, l9, l10, l11, l12, l13, l14, l15] [] h n Q := by
  refine Rn_iload_n dX12_likely_21 rfl rfl ?_
  refine Rn_iconst dX12_likely_22 rfl ?_
  refine Rn_bipush dX12_likely_23 rfl ?_
  exact Rn_callS (avs := [vI x3, vI 1, vI 8]) (st := []) (bc1 := 0) (bs1 := 0) (bc2 := bc) (bs2 := bs) fx_X12_within dX12_likely_25 (Or.inl wd_502) wd_503 rfl (Nat.le_of_ble_eq_true rfl) (Nat.le_of_ble_eq_true rfl) (by omega) (by omega) (ls1 := [some (vI x3), some (vI 1), some (vI 8)]) rfl k
theorem BX12_likely_28 {d bc bs : Nat} {h : aH} {n : Nat} {Q : aQ} {r0 : Option Nat} {x1 x2 x3 x4 s0 : Int} {l5 l6 l7 l8 l9 l10 l11 l12 l13 l14 l15 : Option aV} (kt : s0 ≠ 0 → Rn d bc bs mX12_likely 35 [some (vR r0), some (vI x1), some (vI x2), some (vI x3), some (vI x4), l5, l6, l7, l8, l9, l10, l11, l12, l13, l14, l15] [] h n Q) (kf : s0 = 0 → Rn d bc bs mX12_likely 31 [some (vR r0), some (vI x1), some (vI x2), some (vI x3), some (vI x4), l5, l6, l7, l8, l9, l10, l11, l12, l13, l14, l15] [] h n Q) : Rn d (bc) (bs) mX12_likely 28 [some (vR r0), some (vI x1), some (vI x2), some (vI x3), some (vI x4), l5, l6, l7, l8, l9, l10, l11, l12, l13, l14, l15] [vI s0] h n Q := by
  refine Rn_ifne (tgt := 35) dX12_likely_28 rfl ?_ ?_
  · exact kt
  · exact kf
theorem BX12_likely_31 {d bc bs : Nat} {h : aH} {n : Nat} {Q : aQ} {r0 : Option Nat} {x1 x2 x3 x4 : Int} {l5 l6 l7 l8 l9 l10 l11 l12 l13 l14 l15 : Option aV} (k : Q (some (vL (-1))) h n) : Rn d (bc) (bs) mX12_likely 31 [some (vR r0), some (vI x1), some (vI x2), some (vI x3), some (vI x4), l5, l6, l7, l8, l9, l10, l11, l12, l13, l14, l15] [] h n Q := by
  refine Rn_ldc2 (x := (-1)) dX12_likely_31 wd_1143 rfl ?_
  exact Rn_lreturn rfl dX12_likely_34 k
theorem BX12_likely_35 {d bc bs : Nat} {h : aH} {n : Nat} {Q : aQ} {ar0 at3 at7 : Nat} {x1 x2 x3 x4 v11 v13 : Int} {l5 l6 l7 l8 l9 l10 l11 l12 l13 l14 l15 : Option aV} {f1 f5 f9 : List aV} (h2 : h ar0 = cO 12 f1) (g4 : f1[0]? = some (vR (some at3))) (h6 : h at3 = cO 11 f5) (g8 : f5[3]? = some (vR (some at7))) (h10 : h at7 = cO 5 f9) (g12 : f9[10]? = some (vI v11)) (g14 : f9[11]? = some (vI v13)) (b15 : -2147483648 ≤ 10 - v13 ∧ 10 - v13 < 2147483648) (k : Rn d bc bs mX12_likely 77 [some (vR (some ar0)), some (vI x1), some (vI x2), some (vI x3), some (vI x4), some (vL 0), none, some (vL 1), none, some (vL 1), none, some (vI x1), some (vI v11), some (vI (10 - v13)), some (vI 0), l15] [] h n Q) : Rn d (bc) (bs) mX12_likely 35 [some (vR (some ar0)), some (vI x1), some (vI x2), some (vI x3), some (vI x4), l5, l6, l7, l8, l9, l10, l11, l12, l13, l14, l15] [] h n Q := by
  refine Rn_lconst (x := 0) dX12_likely_35 rfl ?_
  refine Rn_lstore dX12_likely_36 (Nat.le_of_ble_eq_true rfl) rfl rfl ?_
  refine Rn_lconst (x := 1) dX12_likely_38 rfl ?_
  refine Rn_lstore dX12_likely_39 (Nat.le_of_ble_eq_true rfl) rfl rfl ?_
  refine Rn_lconst (x := 1) dX12_likely_41 rfl ?_
  refine Rn_lstore dX12_likely_42 (Nat.le_of_ble_eq_true rfl) rfl rfl ?_
  refine Rn_iload_n dX12_likely_44 rfl rfl ?_
  refine Rn_istore dX12_likely_45 (Nat.le_of_ble_eq_true rfl) rfl rfl ?_
  refine Rn_aload_n dX12_likely_47 rfl rfl rfl ?_
  refine Rn_getfield (ci := 12) (k := 0) dX12_likely_48 rfl in_12 (Nat.le_of_ble_eq_true rfl) wd_460 rfl h2 g4 ?_
  refine Rn_getfield (ci := 11) (k := 3) dX12_likely_51 rfl in_11 (Nat.le_of_ble_eq_true rfl) wd_299 rfl h6 g8 ?_
  refine Rn_getfield (ci := 5) (k := 10) dX12_likely_54 rfl in_5 (Nat.le_of_ble_eq_true rfl) wd_262 rfl h10 g12 ?_
  refine Rn_istore dX12_likely_57 (Nat.le_of_ble_eq_true rfl) rfl rfl ?_
  refine Rn_bipush dX12_likely_59 rfl ?_
  refine Rn_aload_n dX12_likely_61 rfl rfl rfl ?_
  refine Rn_getfield (ci := 12) (k := 0) dX12_likely_62 rfl in_12 (Nat.le_of_ble_eq_true rfl) wd_460 rfl h2 g4 ?_
  refine Rn_getfield (ci := 11) (k := 3) dX12_likely_65 rfl in_11 (Nat.le_of_ble_eq_true rfl) wd_299 rfl h6 g8 ?_
  refine Rn_getfield (ci := 5) (k := 11) dX12_likely_68 rfl in_5 (Nat.le_of_ble_eq_true rfl) wd_264 rfl h10 g14 ?_
  refine Rn_isub dX12_likely_71 ?_
  rw [w32_id b15.1 b15.2]
  refine Rn_istore dX12_likely_72 (Nat.le_of_ble_eq_true rfl) rfl rfl ?_
  refine Rn_iconst dX12_likely_74 rfl ?_
  refine Rn_istore dX12_likely_75 (Nat.le_of_ble_eq_true rfl) rfl rfl ?_
  exact k
theorem BX12_likely_77 {d bc bs : Nat} {h : aH} {n : Nat} {Q : aQ} {r0 : Option Nat} {x1 x2 x3 x4 x5 x7 x9 x11 x12 x13 x14 : Int} {l15 : Option aV} (kt : x3 ≤ x14 → Rn d bc bs mX12_likely 193 [some (vR r0), some (vI x1), some (vI x2), some (vI x3), some (vI x4), some (vL x5), none, some (vL x7), none, some (vL x9), none, some (vI x11), some (vI x12), some (vI x13), some (vI x14), l15] [] h n Q) (kf : x14 < x3 → Rn d bc bs mX12_likely 83 [some (vR r0), some (vI x1), some (vI x2), some (vI x3), some (vI x4), some (vL x5), none, some (vL x7), none, some (vL x9), none, some (vI x11), some (vI x12), some (vI x13), some (vI x14), l15] [] h n Q) : Rn d (bc) (bs) mX12_likely 77 [some (vR r0), some (vI x1), some (vI x2), some (vI x3), some (vI x4), some (vL x5), none, some (vL x7), none, some (vL x9), none, some (vI x11), some (vI x12), some (vI x13), some (vI x14), l15] [] h n Q := by
  refine Rn_iload dX12_likely_77 rfl ?_
  refine Rn_iload_n dX12_likely_79 rfl rfl ?_
  refine Rn_icmpge (tgt := 193) dX12_likely_80 rfl ?_ ?_
  · exact kt
  · exact kf
theorem BX12_likely_83 {d bc bs : Nat} {h : aH} {n : Nat} {Q : aQ} {ar0 at3 at7 at9 : Nat} {x1 x2 x3 x4 x5 x7 x9 x11 x12 x13 x14 v13 : Int} {l15 : Option aV} {f1 f5 f11 f16 : List aV} (h2 : h ar0 = cO 12 f1) (g4 : f1[0]? = some (vR (some at3))) (h6 : h at3 = cO 11 f5) (g8 : f5[0]? = some (vR (some at7))) (g10 : f5[1]? = some (vR (some at9))) (h12 : h at9 = cO 6 f11) (g14 : f11[3]? = some (vI v13)) (b15 : -2147483648 ≤ v13 + x14 ∧ v13 + x14 < 2147483648) (h17 : h at7 = cO 7 f16) (k : Rn d 0 0 mX7_leadsTo 0 [some (vR (some at7)), some (vI (v13 + x14)), some (vI x11), none] [] h n (fun v h1 n1 => Rn (d + 1) bc bs mX12_likely 108 [some (vR (some ar0)), some (vI x1), some (vI x2), some (vI x3), some (vI x4), some (vL x5), none, some (vL x7), none, some (vL x9), none, some (vI x11), some (vI x12), some (vI x13), some (vI x14), l15] (v.toList ++ []) h1 n1 Q)) : Rn (d + 1) (bc) (bs) mX12_likely 83 [some (vR (some ar0)), some (vI x1), some (vI x2), some (vI x3), some (vI x4), some (vL x5), none, some (vL x7), none, some (vL x9), none, some (vI x11), some (vI x12), some (vI x13), some (vI x14), l15] [] h n Q := by
  refine Rn_aload_n dX12_likely_83 rfl rfl rfl ?_
  refine Rn_getfield (ci := 12) (k := 0) dX12_likely_84 rfl in_12 (Nat.le_of_ble_eq_true rfl) wd_460 rfl h2 g4 ?_
  refine Rn_getfield (ci := 11) (k := 0) dX12_likely_87 rfl in_11 (Nat.le_of_ble_eq_true rfl) wd_293 rfl h6 g8 ?_
  refine Rn_aload_n dX12_likely_90 rfl rfl rfl ?_
  refine Rn_getfield (ci := 12) (k := 0) dX12_likely_91 rfl in_12 (Nat.le_of_ble_eq_true rfl) wd_460 rfl h2 g4 ?_
  refine Rn_getfield (ci := 11) (k := 1) dX12_likely_94 rfl in_11 (Nat.le_of_ble_eq_true rfl) wd_295 rfl h6 g10 ?_
  refine Rn_getfield (ci := 6) (k := 3) dX12_likely_97 rfl in_6 (Nat.le_of_ble_eq_true rfl) wd_210 rfl h12 g14 ?_
  refine Rn_iload dX12_likely_100 rfl ?_
  refine Rn_iadd dX12_likely_102 ?_
  rw [w32_id b15.1 b15.2]
  refine Rn_iload dX12_likely_103 rfl ?_
  exact Rn_callV (ci := 7) (avs := [vI (v13 + x14), vI x11]) (st := []) (bc1 := 0) (bs1 := 0) (bc2 := bc) (bs2 := bs) fx_X7_leadsTo dX12_likely_105 wd_1010 wd_885 wd_886 rfl h17 rfl (Nat.le_of_ble_eq_true rfl) (Nat.le_of_ble_eq_true rfl) (by omega) (by omega) (ls1 := [some (vR (some at7)), some (vI (v13 + x14)), some (vI x11), none]) rfl k
theorem BX12_likely_108 {d bc bs : Nat} {h : aH} {n : Nat} {Q : aQ} {ar0 at3 at7 : Nat} {x1 x2 x3 x4 x5 x7 x9 x11 x12 x13 x14 s0 : Int} {l15 : Option aV} {f1 f5 f9 : List aV} (h2 : h ar0 = cO 12 f1) (g4 : f1[0]? = some (vR (some at3))) (h6 : h at3 = cO 11 f5) (g8 : f5[0]? = some (vR (some at7))) (h10 : h at7 = cO 7 f9) (k : Rn d 0 0 mX7_placeOf 0 [some (vR (some at7)), some (vI x2)] [] h n (fun v h1 n1 => Rn (d + 1) bc bs mX12_likely 123 [some (vR (some ar0)), some (vI x1), some (vI x2), some (vI x3), some (vI x4), some (vL x5), none, some (vL x7), none, some (vL x9), none, some (vI s0), some (vI x12), some (vI x13), some (vI x14), l15] (v.toList ++ [vI s0]) h1 n1 Q)) : Rn (d + 1) (bc) (bs) mX12_likely 108 [some (vR (some ar0)), some (vI x1), some (vI x2), some (vI x3), some (vI x4), some (vL x5), none, some (vL x7), none, some (vL x9), none, some (vI x11), some (vI x12), some (vI x13), some (vI x14), l15] [vI s0] h n Q := by
  refine Rn_istore dX12_likely_108 (Nat.le_of_ble_eq_true rfl) rfl rfl ?_
  refine Rn_iload dX12_likely_110 rfl ?_
  refine Rn_aload_n dX12_likely_112 rfl rfl rfl ?_
  refine Rn_getfield (ci := 12) (k := 0) dX12_likely_113 rfl in_12 (Nat.le_of_ble_eq_true rfl) wd_460 rfl h2 g4 ?_
  refine Rn_getfield (ci := 11) (k := 0) dX12_likely_116 rfl in_11 (Nat.le_of_ble_eq_true rfl) wd_293 rfl h6 g8 ?_
  refine Rn_iload_n dX12_likely_119 rfl rfl ?_
  exact Rn_callV (ci := 7) (avs := [vI x2]) (st := [vI s0]) (bc1 := 0) (bs1 := 0) (bc2 := bc) (bs2 := bs) fx_X7_placeOf dX12_likely_120 wd_811 wd_812 wd_813 rfl h10 rfl (Nat.le_of_ble_eq_true rfl) (Nat.le_of_ble_eq_true rfl) (by omega) (by omega) (ls1 := [some (vR (some at7)), some (vI x2)]) rfl k
theorem BX12_likely_123 {d bc bs : Nat} {h : aH} {n : Nat} {Q : aQ} {r0 : Option Nat} {x1 x2 x3 x4 x5 x7 x9 x11 x12 x13 x14 s0 s1 : Int} {l15 : Option aV} (kt : s0 ≠ s1 → Rn d bc bs mX12_likely 130 [some (vR r0), some (vI x1), some (vI x2), some (vI x3), some (vI x4), some (vL x5), none, some (vL x7), none, some (vL x9), none, some (vI x11), some (vI x12), some (vI x13), some (vI x14), l15] [] h n Q) (kf : s0 = s1 → Rn d bc bs mX12_likely 126 [some (vR r0), some (vI x1), some (vI x2), some (vI x3), some (vI x4), some (vL x5), none, some (vL x7), none, some (vL x9), none, some (vI x11), some (vI x12), some (vI x13), some (vI x14), l15] [] h n Q) : Rn d (bc) (bs) mX12_likely 123 [some (vR r0), some (vI x1), some (vI x2), some (vI x3), some (vI x4), some (vL x5), none, some (vL x7), none, some (vL x9), none, some (vI x11), some (vI x12), some (vI x13), some (vI x14), l15] [vI s1, vI s0] h n Q := by
  refine Rn_icmpne (tgt := 130) dX12_likely_123 rfl ?_ ?_
  · exact kt
  · exact kf
theorem BX12_likely_126 {d bc bs : Nat} {h : aH} {n : Nat} {Q : aQ} {r0 : Option Nat} {x1 x2 x3 x4 x5 x7 x9 x11 x12 x13 x14 : Int} {l15 : Option aV} (b1 : -9223372036854775808 ≤ x5 * 10 ∧ x5 * 10 < 9223372036854775808) (kt : (1 : Int) = 0 → Rn d bc bs mX12_likely 153 [some (vR r0), some (vI x1), some (vI x2), some (vI x3), some (vI x4), some (vL x5), none, some (vL x7), none, some (vL x9), none, some (vI x11), some (vI x12), some (vI x13), some (vI x14), some (vI 1)] [vL (x5 * 10)] h n Q) (kf : (1 : Int) ≠ 0 → Rn d bc bs mX12_likely 144 [some (vR r0), some (vI x1), some (vI x2), some (vI x3), some (vI x4), some (vL x5), none, some (vL x7), none, some (vL x9), none, some (vI x11), some (vI x12), some (vI x13), some (vI x14), some (vI 1)] [vL (x5 * 10)] h n Q) : Rn d (bc) (bs) mX12_likely 126 [some (vR r0), some (vI x1), some (vI x2), some (vI x3), some (vI x4), some (vL x5), none, some (vL x7), none, some (vL x9), none, some (vI x11), some (vI x12), some (vI x13), some (vI x14), l15] [] h n Q := by
  refine Rn_iconst dX12_likely_126 rfl ?_
  refine Rn_goto (tgt := 131) dX12_likely_127 rfl ?_
  refine Rn_istore dX12_likely_131 (Nat.le_of_ble_eq_true rfl) rfl rfl ?_
  refine Rn_lload dX12_likely_133 rfl ?_
  refine Rn_ldc2 (x := 10) dX12_likely_135 wd_1144 rfl ?_
  refine Rn_lmul dX12_likely_138 ?_
  rw [w64_id b1.1 b1.2]
  refine Rn_iload dX12_likely_139 rfl ?_
  refine Rn_ifeq (tgt := 153) dX12_likely_141 rfl ?_ ?_
  · exact kt
  · exact kf
theorem BX12_likely_130 {d bc bs : Nat} {h : aH} {n : Nat} {Q : aQ} {r0 : Option Nat} {x1 x2 x3 x4 x5 x7 x9 x11 x12 x13 x14 : Int} {l15 : Option aV} (b1 : -9223372036854775808 ≤ x5 * 10 ∧ x5 * 10 < 9223372036854775808) (kt : (0 : Int) = 0 → Rn d bc bs mX12_likely 153 [some (vR r0), some (vI x1), some (vI x2), some (vI x3), some (vI x4), some (vL x5), none, some (vL x7), none, some (vL x9), none, some (vI x11), some (vI x12), some (vI x13), some (vI x14), some (vI 0)] [vL (x5 * 10)] h n Q) (kf : (0 : Int) ≠ 0 → Rn d bc bs mX12_likely 144 [some (vR r0), some (vI x1), some (vI x2), some (vI x3), some (vI x4), some (vL x5), none, some (vL x7), none, some (vL x9), none, some (vI x11), some (vI x12), some (vI x13), some (vI x14), some (vI 0)] [vL (x5 * 10)] h n Q) : Rn d (bc) (bs) mX12_likely 130 [some (vR r0), some (vI x1), some (vI x2), some (vI x3), some (vI x4), some (vL x5), none, some (vL x7), none, some (vL x9), none, some (vI x11), some (vI x12), some (vI x13), some (vI x14), l15] [] h n Q := by
  refine Rn_iconst dX12_likely_130 rfl ?_
  refine Rn_istore dX12_likely_131 (Nat.le_of_ble_eq_true rfl) rfl rfl ?_
  refine Rn_lload dX12_likely_133 rfl ?_
  refine Rn_ldc2 (x := 10) dX12_likely_135 wd_1144 rfl ?_
  refine Rn_lmul dX12_likely_138 ?_
  rw [w64_id b1.1 b1.2]
  refine Rn_iload dX12_likely_139 rfl ?_
  refine Rn_ifeq (tgt := 153) dX12_likely_141 rfl ?_ ?_
  · exact kt
  · exact kf
theorem BX12_likely_144 {d bc bs : Nat} {h : aH} {n : Nat} {Q : aQ} {r0 : Option Nat} {x1 x2 x3 x4 x5 x7 x9 x11 x12 x13 x14 x15 s0 : Int} (b1 : -9223372036854775808 ≤ x7 * x12 ∧ x7 * x12 < 9223372036854775808) (b2 : -9223372036854775808 ≤ s0 + (x7 * x12) ∧ s0 + (x7 * x12) < 9223372036854775808) (kt : x15 = 0 → Rn d bc bs mX12_likely 173 [some (vR r0), some (vI x1), some (vI x2), some (vI x3), some (vI x4), some (vL (s0 + (x7 * x12))), none, some (vL x7), none, some (vL x9), none, some (vI x11), some (vI x12), some (vI x13), some (vI x14), some (vI x15)] [vL x7] h n Q) (kf : x15 ≠ 0 → Rn d bc bs mX12_likely 164 [some (vR r0), some (vI x1), some (vI x2), some (vI x3), some (vI x4), some (vL (s0 + (x7 * x12))), none, some (vL x7), none, some (vL x9), none, some (vI x11), some (vI x12), some (vI x13), some (vI x14), some (vI x15)] [vL x7] h n Q) : Rn d (bc) (bs) mX12_likely 144 [some (vR r0), some (vI x1), some (vI x2), some (vI x3), some (vI x4), some (vL x5), none, some (vL x7), none, some (vL x9), none, some (vI x11), some (vI x12), some (vI x13), some (vI x14), some (vI x15)] [vL s0] h n Q := by
  refine Rn_lload dX12_likely_144 rfl ?_
  refine Rn_iload dX12_likely_146 rfl ?_
  refine Rn_i2l dX12_likely_148 ?_
  refine Rn_lmul dX12_likely_149 ?_
  rw [w64_id b1.1 b1.2]
  refine Rn_goto (tgt := 154) dX12_likely_150 rfl ?_
  refine Rn_ladd dX12_likely_154 ?_
  rw [w64_id b2.1 b2.2]
  refine Rn_lstore dX12_likely_155 (Nat.le_of_ble_eq_true rfl) rfl rfl ?_
  refine Rn_lload dX12_likely_157 rfl ?_
  refine Rn_iload dX12_likely_159 rfl ?_
  refine Rn_ifeq (tgt := 173) dX12_likely_161 rfl ?_ ?_
  · exact kt
  · exact kf
theorem BX12_likely_153 {d bc bs : Nat} {h : aH} {n : Nat} {Q : aQ} {r0 : Option Nat} {x1 x2 x3 x4 x5 x7 x9 x11 x12 x13 x14 x15 s0 : Int} (b1 : -9223372036854775808 ≤ s0 + 0 ∧ s0 + 0 < 9223372036854775808) (kt : x15 = 0 → Rn d bc bs mX12_likely 173 [some (vR r0), some (vI x1), some (vI x2), some (vI x3), some (vI x4), some (vL (s0 + 0)), none, some (vL x7), none, some (vL x9), none, some (vI x11), some (vI x12), some (vI x13), some (vI x14), some (vI x15)] [vL x7] h n Q) (kf : x15 ≠ 0 → Rn d bc bs mX12_likely 164 [some (vR r0), some (vI x1), some (vI x2), some (vI x3), some (vI x4), some (vL (s0 + 0)), none, some (vL x7), none, some (vL x9), none, some (vI x11), some (vI x12), some (vI x13), some (vI x14), some (vI x15)] [vL x7] h n Q) : Rn d (bc) (bs) mX12_likely 153 [some (vR r0), some (vI x1), some (vI x2), some (vI x3), some (vI x4), some (vL x5), none, some (vL x7), none, some (vL x9), none, some (vI x11), some (vI x12), some (vI x13), some (vI x14), some (vI x15)] [vL s0] h n Q := by
  refine Rn_lconst (x := 0) dX12_likely_153 rfl ?_
  refine Rn_ladd dX12_likely_154 ?_
  rw [w64_id b1.1 b1.2]
  refine Rn_lstore dX12_likely_155 (Nat.le_of_ble_eq_true rfl) rfl rfl ?_
  refine Rn_lload dX12_likely_157 rfl ?_
  refine Rn_iload dX12_likely_159 rfl ?_
  refine Rn_ifeq (tgt := 173) dX12_likely_161 rfl ?_ ?_
  · exact kt
  · exact kf
theorem BX12_likely_164 {d bc bs : Nat} {h : aH} {n : Nat} {Q : aQ} {r0 : Option Nat} {x1 x2 x3 x4 x5 x7 x9 x11 x12 x13 x14 x15 s0 : Int} (b1 : -2147483648 ≤ x13 - x12 ∧ x13 - x12 < 2147483648) (b2 : -9223372036854775808 ≤ s0 * (x13 - x12) ∧ s0 * (x13 - x12) < 9223372036854775808) (b3 : -9223372036854775808 ≤ x9 * 10 ∧ x9 * 10 < 9223372036854775808) (b4 : -2147483648 ≤ x14 + 1 ∧ x14 + 1 < 2147483648) (k : Rn d bc bs mX12_likely 77 [some (vR r0), some (vI x1), some (vI x2), some (vI x3), some (vI x4), some (vL x5), none, some (vL (s0 * (x13 - x12))), none, some (vL (x9 * 10)), none, some (vI x11), some (vI x12), some (vI x13), some (vI (x14 + 1)), some (vI x15)] [] h n Q) : Rn d (bc) (bs) mX12_likely 164 [some (vR r0), some (vI x1), some (vI x2), some (vI x3), some (vI x4), some (vL x5), none, some (vL x7), none, some (vL x9), none, some (vI x11), some (vI x12), some (vI x13), some (vI x14), some (vI x15)] [vL s0] h n Q := by
  refine Rn_iload dX12_likely_164 rfl ?_
  refine Rn_iload dX12_likely_166 rfl ?_
  refine Rn_isub dX12_likely_168 ?_
  rw [w32_id b1.1 b1.2]
  refine Rn_i2l dX12_likely_169 ?_
  refine Rn_goto (tgt := 176) dX12_likely_170 rfl ?_
  refine Rn_lmul dX12_likely_176 ?_
  rw [w64_id b2.1 b2.2]
  refine Rn_lstore dX12_likely_177 (Nat.le_of_ble_eq_true rfl) rfl rfl ?_
  refine Rn_lload dX12_likely_179 rfl ?_
  refine Rn_ldc2 (x := 10) dX12_likely_181 wd_1144 rfl ?_
  refine Rn_lmul dX12_likely_184 ?_
  rw [w64_id b3.1 b3.2]
  refine Rn_lstore dX12_likely_185 (Nat.le_of_ble_eq_true rfl) rfl rfl ?_
  refine Rn_iinc dX12_likely_187 rfl (Nat.le_of_ble_eq_true rfl) rfl rfl rfl ?_
  rw [w32_id b4.1 b4.2]
  refine Rn_goto (tgt := 77) dX12_likely_190 rfl ?_
  exact k
theorem BX12_likely_173 {d bc bs : Nat} {h : aH} {n : Nat} {Q : aQ} {r0 : Option Nat} {x1 x2 x3 x4 x5 x7 x9 x11 x12 x13 x14 x15 s0 : Int} (b1 : -9223372036854775808 ≤ s0 * x13 ∧ s0 * x13 < 9223372036854775808) (b2 : -9223372036854775808 ≤ x9 * 10 ∧ x9 * 10 < 9223372036854775808) (b3 : -2147483648 ≤ x14 + 1 ∧ x14 + 1 < 2147483648) (k : Rn d bc bs mX12_likely 77 [some (vR r0), some (vI x1), some (vI x2), some (vI x3), some (vI x4), some (vL x5), none, some (vL (s0 * x13)), none, some (vL (x9 * 10)), none, some (vI x11), some (vI x12), some (vI x13), some (vI (x14 + 1)), some (vI x15)] [] h n Q) : Rn d (bc) (bs) mX12_likely 173 [some (vR r0), some (vI x1), some (vI x2), some (vI x3), some (vI x4), some (vL x5), none, some (vL x7), none, some (vL x9), none, some (vI x11), some (vI x12), some (vI x13), some (vI x14), some (vI x15)] [vL s0] h n Q := by
  refine Rn_iload dX12_likely_173 rfl ?_
  refine Rn_i2l dX12_likely_175 ?_
  refine Rn_lmul dX12_likely_176 ?_
  rw [w64_id b1.1 b1.2]
  refine Rn_lstore dX12_likely_177 (Nat.le_of_ble_eq_true rfl) rfl rfl ?_
  refine Rn_lload dX12_likely_179 rfl ?_
  refine Rn_ldc2 (x := 10) dX12_likely_181 wd_1144 rfl ?_
  refine Rn_lmul dX12_likely_184 ?_
  rw [w64_id b2.1 b2.2]
  refine Rn_lstore dX12_likely_185 (Nat.le_of_ble_eq_true rfl) rfl rfl ?_
  refine Rn_iinc dX12_likely_187 rfl (Nat.le_of_ble_eq_true rfl) rfl rfl rfl ?_
  rw [w32_id b3.1 b3.2]
  refine Rn_goto (tgt := 77) dX12_likely_190 rfl ?_
  exact k
theorem BX12_likely_193 {d bc bs : Nat} {h : aH} {n : Nat} {Q : aQ} {r0 : Option Nat} {x1 x2 x3 x4 x5 x7 x9 x11 x12 x13 x14 : Int} {l15 : Option aV} (k : Rn d 0 0 mX12_sharedDivisor 0 [some (vL x5), none, some (vL x9), none, none, none, none, none, none, none, none] [] h n (fun v h1 n1 => Rn (d + 1) bc bs mX12_likely 200 [some (vR r0), some (vI x1), some (vI x2), some (vI x3), some (vI x4), some (vL x5), none, some (vL x7), none, some (vL x9), none, some (vI x11), some (vI x12), some (vI x13), some (vI x14), l15] (v.toList ++ []) h1 n1 Q)) : Rn (d + 1) (bc) (bs) mX12_likely 193 [some (vR r0), some (vI x1), some (vI x2), some (vI x3), some (vI x4), some (vL x5), none, some (vL x7), none, some (vL x9), none, some (vI x11), some (vI x12), some (vI x13), some (vI x14), l15] [] h n Q := by
  refine Rn_lload dX12_likely_193 rfl ?_
  refine Rn_lload dX12_likely_195 rfl ?_
  exact Rn_callS (avs := [vL x5, vL x9]) (st := []) (bc1 := 0) (bs1 := 0) (bc2 := bc) (bs2 := bs) fx_X12_sharedDivisor dX12_likely_197 (Or.inl wd_1145) wd_1146 rfl (Nat.le_of_ble_eq_true rfl) (Nat.le_of_ble_eq_true rfl) (by omega) (by omega) (ls1 := [some (vL x5), none, some (vL x9), none, none, none, none, none, none, none, none]) rfl k
theorem BX12_likely_200 {d bc bs : Nat} {h : aH} {n : Nat} {Q : aQ} {r0 : Option Nat} {x1 x2 x3 x4 x5 x7 x9 x11 x12 x13 x14 s0 : Int} {l15 : Option aV} (kt : 0 < s0 → Rn d bc bs mX12_likely 213 [some (vR r0), some (vI x1), some (vI x2), some (vI x3), some (vI x4), some (vL x5), none, some (vL x7), none, some (vL x9), none, some (vI x11), some (vI x12), some (vI x13), some (vL s0), none] [] h n Q) (kf : s0 ≤ 0 → Rn d bc bs mX12_likely 209 [some (vR r0), some (vI x1), some (vI x2), some (vI x3), some (vI x4), some (vL x5), none, some (vL x7), none, some (vL x9), none, some (vI x11), some (vI x12), some (vI x13), some (vL s0), none] [] h n Q) : Rn d (bc) (bs) mX12_likely 200 [some (vR r0), some (vI x1), some (vI x2), some (vI x3), some (vI x4), some (vL x5), none, some (vL x7), none, some (vL x9), none, some (vI x11), some (vI x12), some (vI x13), some (vI x14), l15] [vL s0] h n Q := by
  refine Rn_lstore dX12_likely_200 (Nat.le_of_ble_eq_true rfl) rfl rfl ?_
  refine Rn_lload dX12_likely_202 rfl ?_
  refine Rn_lconst (x := 0) dX12_likely_204 rfl ?_
  refine Rn_lcmp dX12_likely_205 ?_
  refine Rn_ifgt (tgt := 213) dX12_likely_206 rfl ?_ ?_
  · exact fun q => kt (lc_gt q)
  · exact fun q => kf (lc_le q)
theorem BX12_likely_209 {d bc bs : Nat} {h : aH} {n : Nat} {Q : aQ} {r0 : Option Nat} {x1 x2 x3 x4 x5 x7 x9 x11 x12 x13 x14 : Int} (k : Q (some (vL (-1))) h n) : Rn d (bc) (bs) mX12_likely 209 [some (vR r0), some (vI x1), some (vI x2), some (vI x3), some (vI x4), some (vL x5), none, some (vL x7), none, some (vL x9), none, some (vI x11), some (vI x12), some (vI x13), some (vL x14), none] [] h n Q := by
  refine Rn_ldc2 (x := (-1)) dX12_likely_209 wd_1143 rfl ?_
  exact Rn_lreturn rfl dX12_likely_212 k
theorem BX12_likely_213 {d bc bs : Nat} {h : aH} {n : Nat} {Q : aQ} {r0 : Option Nat} {x1 x2 x3 x4 x5 x7 x9 x11 x12 x13 x14 : Int} (kt : x4 = 0 → Rn d bc bs mX12_likely 226 [some (vR r0), some (vI x1), some (vI x2), some (vI x3), some (vI x4), some (vL x5), none, some (vL x7), none, some (vL x9), none, some (vI x11), some (vI x12), some (vI x13), some (vL x14), none] [] h n Q) (kf : x4 ≠ 0 → Rn d bc bs mX12_likely 218 [some (vR r0), some (vI x1), some (vI x2), some (vI x3), some (vI x4), some (vL x5), none, some (vL x7), none, some (vL x9), none, some (vI x11), some (vI x12), some (vI x13), some (vL x14), none] [] h n Q) : Rn d (bc) (bs) mX12_likely 213 [some (vR r0), some (vI x1), some (vI x2), some (vI x3), some (vI x4), some (vL x5), none, some (vL x7), none, some (vL x9), none, some (vI x11), some (vI x12), some (vI x13), some (vL x14), none] [] h n Q := by
  refine Rn_iload dX12_likely_213 rfl ?_
  refine Rn_ifeq (tgt := 226) dX12_likely_215 rfl ?_ ?_
  · exact kt
  · exact kf
theorem BX12_likely_218 {d bc bs : Nat} {h : aH} {n : Nat} {Q : aQ} {r0 : Option Nat} {x1 x2 x3 x4 x5 x7 x9 x11 x12 x13 x14 : Int} (e1 : ¬ x14 = 0) (b2 : -9223372036854775808 ≤ Int.tdiv x9 x14 ∧ Int.tdiv x9 x14 < 9223372036854775808) (k : Q (some (vL (Int.tdiv x9 x14))) h n) : Rn d (bc) (bs) mX12_likely 218 [some (vR r0), some (vI x1), some (vI x2), some (vI x3), some (vI x4), some (vL x5), none, some (vL x7), none, some (vL x9), none, some (vI x11), some (vI x12), some (vI x13), some (vL x14), none] [] h n Q := by
  refine Rn_lload dX12_likely_218 rfl ?_
  refine Rn_lload dX12_likely_220 rfl ?_
  refine Rn_ldiv dX12_likely_222 e1 ?_
  rw [w64_id b2.1 b2.2]
  refine Rn_goto (tgt := 231) dX12_likely_223 rfl ?_
  exact Rn_lreturn rfl dX12_likely_231 k
theorem BX12_likely_226 {d bc bs : Nat} {h : aH} {n : Nat} {Q : aQ} {r0 : Option Nat} {x1 x2 x3 x4 x5 x7 x9 x11 x12 x13 x14 : Int} (e1 : ¬ x14 = 0) (b2 : -9223372036854775808 ≤ Int.tdiv x5 x14 ∧ Int.tdiv x5 x14 < 9223372036854775808) (k : Q (some (vL (Int.tdiv x5 x14))) h n) : Rn d (bc) (bs) mX12_likely 226 [some (vR r0), some (vI x1), some (vI x2), some (vI x3), some (vI x4), some (vL x5), none, some (vL x7), none, some (vL x9), none, some (vI x11), some (vI x12), some (vI x13), some (vL x14), none] [] h n Q := by
  refine Rn_lload dX12_likely_226 rfl ?_
  refine Rn_lload dX12_likely_228 rfl ?_
  refine Rn_ldiv dX12_likely_230 e1 ?_
  rw [w64_id b2.1 b2.2]
  exact Rn_lreturn rfl dX12_likely_231 k
theorem dX12_odds_0 : decode cX12_odds 0 = .ok (.iload_n 1, 1) := by decide +kernel
theorem dX12_odds_1 : decode cX12_odds 1 = .ok (.iconst 0, 1) := by decide +kernel
theorem dX12_odds_2 : decode cX12_odds 2 = .ok (.bipush 10, 2) := by decide +kernel
theorem dX12_odds_4 : decode cX12_odds 4 = .ok (.invokestatic 93, 3) := by decide +kernel
theorem dX12_odds_7 : decode cX12_odds 7 = .ok (.ifCond .eq 15, 3) := by decide +kernel
theorem dX12_odds_10 : decode cX12_odds 10 = .ok (.iload_n 2, 1) := by decide +kernel
theorem dX12_odds_11 : decode cX12_odds 11 = .ok (.iconst 0, 1) := by decide +kernel
theorem dX12_odds_12 : decode cX12_odds 12 = .ok (.bipush 10, 2) := by decide +kernel
theorem dX12_odds_14 : decode cX12_odds 14 = .ok (.iload_n 1, 1) := by decide +kernel
theorem dX12_odds_15 : decode cX12_odds 15 = .ok (.isub, 1) := by decide +kernel
theorem dX12_odds_16 : decode cX12_odds 16 = .ok (.invokestatic 93, 3) := by decide +kernel
theorem dX12_odds_19 : decode cX12_odds 19 = .ok (.ifCond .ne 5, 3) := by decide +kernel
theorem dX12_odds_22 : decode cX12_odds 22 = .ok (.iconst 0, 1) := by decide +kernel
theorem dX12_odds_23 : decode cX12_odds 23 = .ok (.ireturn, 1) := by decide +kernel
theorem dX12_odds_24 : decode cX12_odds 24 = .ok (.aload_n 0, 1) := by decide +kernel
theorem dX12_odds_25 : decode cX12_odds 25 = .ok (.getfield 10, 3) := by decide +kernel
theorem dX12_odds_28 : decode cX12_odds 28 = .ok (.getfield 263, 3) := by decide +kernel
theorem dX12_odds_31 : decode cX12_odds 31 = .ok (.iload_n 1, 1) := by decide +kernel
theorem dX12_odds_32 : decode cX12_odds 32 = .ok (.putfield 314, 3) := by decide +kernel
theorem dX12_odds_35 : decode cX12_odds 35 = .ok (.aload_n 0, 1) := by decide +kernel
theorem dX12_odds_36 : decode cX12_odds 36 = .ok (.getfield 10, 3) := by decide +kernel
theorem dX12_odds_39 : decode cX12_odds 39 = .ok (.getfield 263, 3) := by decide +kernel
theorem dX12_odds_42 : decode cX12_odds 42 = .ok (.iload_n 2, 1) := by decide +kernel
theorem dX12_odds_43 : decode cX12_odds 43 = .ok (.putfield 317, 3) := by decide +kernel
theorem dX12_odds_46 : decode cX12_odds 46 = .ok (.iconst 1, 1) := by decide +kernel
theorem dX12_odds_47 : decode cX12_odds 47 = .ok (.ireturn, 1) := by decide +kernel
theorem BX12_odds_0 {d bc bs : Nat} {h : aH} {n : Nat} {Q : aQ} {r0 : Option Nat} {x1 x2 : Int} (k : Rn d 0 0 mX12_within 0 [some (vI x1), some (vI 0), some (vI 10)] [] h n (fun v h1 n1 => Rn (d + 1) bc bs mX12_odds 7 [some (vR r0), some (vI x1), some (vI x2)] (v.toList ++ []) h1 n1 Q)) : Rn (d + 1) (bc) (bs) mX12_odds 0 [some (vR r0), some (vI x1), some (vI x2)] [] h n Q := by
  refine Rn_iload_n dX12_odds_0 rfl rfl ?_
  refine Rn_iconst dX12_odds_1 rfl ?_
  refine Rn_bipush dX12_odds_2 rfl ?_
  exact Rn_callS (avs := [vI x1, vI 0, vI 10]) (st := []) (bc1 := 0) (bs1 := 0) (bc2 := bc) (bs2 := bs) fx_X12_within dX12_odds_4 (Or.inl wd_502) wd_503 rfl (Nat.le_of_ble_eq_true rfl) (Nat.le_of_ble_eq_true rfl) (by omega) (by omega) (ls1 := [some (vI x1), some (vI 0), some (vI 10)]) rfl k
theorem BX12_odds_7 {d bc bs : Nat} {h : aH} {n : Nat} {Q : aQ} {r0 : Option Nat} {x1 x2 s0 : Int} (kt : s0 = 0 → Rn d bc bs mX12_odds 22 [some (vR r0), some (vI x1), some (vI x2)] [] h n Q) (kf : s0 ≠ 0 → Rn d bc bs mX12_odds 10 [some (vR r0), some (vI x1), some (vI x2)] [] h n Q) : Rn d (bc) (bs) mX12_odds 7 [some (vR r0), some (vI x1), some (vI x2)] [vI s0] h n Q := by
  refine Rn_ifeq (tgt := 22) dX12_odds_7 rfl ?_ ?_
  · exact kt
  · exact kf
theorem BX12_odds_10 {d bc bs : Nat} {h : aH} {n : Nat} {Q : aQ} {r0 : Option Nat} {x1 x2 : Int} (b1 : -2147483648 ≤ 10 - x1 ∧ 10 - x1 < 2147483648) (k : Rn d 0 0 mX12_within 0 [some (vI x2), some (vI 0), some (vI (10 - x1))] [] h n (fun v h1 n1 => Rn (d + 1) bc bs mX12_odds 19 [some (vR r0), some (vI x1), some (vI x2)] (v.toList ++ []) h1 n1 Q)) : Rn (d + 1) (bc) (bs) mX12_odds 10 [some (vR r0), some (vI x1), some (vI x2)] [] h n Q := by
  refine Rn_iload_n dX12_odds_10 rfl rfl ?_
  refine Rn_iconst dX12_odds_11 rfl ?_
  refine Rn_bipush dX12_odds_12 rfl ?_
  refine Rn_iload_n dX12_odds_14 rfl rfl ?_
  refine Rn_isub dX12_odds_15 ?_
  rw [w32_id b1.1 b1.2]
  exact Rn_callS (avs := [vI x2, vI 0, vI (10 - x1)]) (st := []) (bc1 := 0) (bs1 := 0) (bc2 := bc) (bs2 := bs) fx_X12_within dX12_odds_16 (Or.inl wd_502) wd_503 rfl (Nat.le_of_ble_eq_true rfl) (Nat.le_of_ble_eq_true rfl) (by omega) (by omega) (ls1 := [some (vI x2), some (vI 0), some (vI (10 - x1))]) rfl k
theorem BX12_odds_19 {d bc bs : Nat} {h : aH} {n : Nat} {Q : aQ} {r0 : Option Nat} {x1 x2 s0 : Int} (kt : s0 ≠ 0 → Rn d bc bs mX12_odds 24 [some (vR r0), some (vI x1), some (vI x2)] [] h n Q) (kf : s0 = 0 → Rn d bc bs mX12_odds 22 [some (vR r0), some (vI x1), some (vI x2)] [] h n Q) : Rn d (bc) (bs) mX12_odds 19 [some (vR r0), some (vI x1), some (vI x2)] [vI s0] h n Q := by
  refine Rn_ifne (tgt := 24) dX12_odds_19 rfl ?_ ?_
  · exact kt
  · exact kf
theorem BX12_odds_22 {d bc bs : Nat} {h : aH} {n : Nat} {Q : aQ} {r0 : Option Nat} {x1 x2 : Int} (k : Q (some (vI 0)) h n) : Rn d (bc) (bs) mX12_odds 22 [some (vR r0), some (vI x1), some (vI x2)] [] h n Q := by
  refine Rn_iconst dX12_odds_22 rfl ?_
  exact Rn_zreturn rfl dX12_odds_23 (by decide) k
theorem BX12_odds_24 {d bc bs : Nat} {h : aH} {n : Nat} {Q : aQ} {ar0 at3 at7 : Nat} {x1 x2 : Int} {f1 f5 f9 : List aV} (h2 : h ar0 = cO 12 f1) (g4 : f1[0]? = some (vR (some at3))) (h6 : h at3 = cO 11 f5) (g8 : f5[3]? = some (vR (some at7))) (h10 : h at7 = cO 5 f9) (m11 : 10 < f9.length) (k : Rn d bc bs mX12_odds 35 [some (vR (some ar0)), some (vI x1), some (vI x2)] [] (up h at7 (cO 5 (f9.set 10 (vI x1)))) n Q) : Rn d (bc) (bs) mX12_odds 24 [some (vR (some ar0)), some (vI x1), some (vI x2)] [] h n Q := by
  refine Rn_aload_n dX12_odds_24 rfl rfl rfl ?_
  refine Rn_getfield (ci := 12) (k := 0) dX12_odds_25 rfl in_12 (Nat.le_of_ble_eq_true rfl) wd_460 rfl h2 g4 ?_
  refine Rn_getfield (ci := 11) (k := 3) dX12_odds_28 rfl in_11 (Nat.le_of_ble_eq_true rfl) wd_299 rfl h6 g8 ?_
  refine Rn_iload_n dX12_odds_31 rfl rfl ?_
  refine Rn_putfield (ci := 5) (k := 10) dX12_odds_32 rfl in_5 tyX5_ok nmX5 (Nat.le_of_ble_eq_true rfl) wd_262 rfl (Or.inl rfl) trivial m11 h10 ?_
  exact k
theorem BX12_odds_35 {d bc bs : Nat} {h : aH} {n : Nat} {Q : aQ} {ar0 at3 at7 : Nat} {x1 x2 : Int} {f1 f5 f9 : List aV} (h2 : h ar0 = cO 12 f1) (g4 : f1[0]? = some (vR (some at3))) (h6 : h at3 = cO 11 f5) (g8 : f5[3]? = some (vR (some at7))) (h10 : h at7 = cO 5 f9) (m11 : 11 < f9.length) (k : Rn d bc bs mX12_odds 46 [some (vR (some ar0)), some (vI x1), some (vI x2)] [] (up h at7 (cO 5 (f9.set 11 (vI x2)))) n Q) : Rn d (bc) (bs) mX12_odds 35 [some (vR (some ar0)), some (vI x1), some (vI x2)] [] h n Q := by
  refine Rn_aload_n dX12_odds_35 rfl rfl rfl ?_
  refine Rn_getfield (ci := 12) (k := 0) dX12_odds_36 rfl in_12 (Nat.le_of_ble_eq_true rfl) wd_460 rfl h2 g4 ?_
  refine Rn_getfield (ci := 11) (k := 3) dX12_odds_39 rfl in_11 (Nat.le_of_ble_eq_true rfl) wd_299 rfl h6 g8 ?_
  refine Rn_iload_n dX12_odds_42 rfl rfl ?_
  refine Rn_putfield (ci := 5) (k := 11) dX12_odds_43 rfl in_5 tyX5_ok nmX5 (Nat.le_of_ble_eq_true rfl) wd_264 rfl (Or.inl rfl) trivial m11 h10 ?_
  exact k
theorem BX12_odds_46 {d bc bs : Nat} {h : aH} {n : Nat} {Q : aQ} {r0 : Option Nat} {x1 x2 : Int} (k : Q (some (vI 1)) h n) : Rn d (bc) (bs) mX12_odds 46 [some (vR r0), some (vI x1), some (vI x2)] [] h n Q := by
  refine Rn_iconst dX12_odds_46 rfl ?_
  exact Rn_zreturn rfl dX12_odds_47 (by decide) k
theorem dX12_code_0 : decode cX12_code 0 = .ok (.iload_n 1, 1) := by decide +kernel
theorem dX12_code_1 : decode cX12_code 1 = .ok (.iconst (-1), 1) := by decide +kernel
theorem dX12_code_2 : decode cX12_code 2 = .ok (.if_icmp .ne 14, 3) := by decide +kernel
theorem dX12_code_5 : decode cX12_code 5 = .ok (.aload_n 0, 1) := by decide +kernel
theorem dX12_code_6 : decode cX12_code 6 = .ok (.getfield 10, 3) := by decide +kernel
theorem dX12_code_9 : decode cX12_code 9 = .ok (.getfield 263, 3) := by decide +kernel
theorem dX12_code_12 : decode cX12_code 12 = .ok (.invokevirtual 326, 3) := by decide +kernel
theorem dX12_code_15 : decode cX12_code 15 = .ok (.ireturn, 1) := by decide +kernel
theorem dX12_code_16 : decode cX12_code 16 = .ok (.aload_n 0, 1) := by decide +kernel
theorem dX12_code_17 : decode cX12_code 17 = .ok (.getfield 50, 3) := by decide +kernel
theorem dX12_code_20 : decode cX12_code 20 = .ok (.iload_n 1, 1) := by decide +kernel
theorem dX12_code_21 : decode cX12_code 21 = .ok (.invokevirtual 329, 3) := by decide +kernel
theorem dX12_code_24 : decode cX12_code 24 = .ok (.ifCond .eq 17, 3) := by decide +kernel
theorem dX12_code_27 : decode cX12_code 27 = .ok (.aload_n 0, 1) := by decide +kernel
theorem dX12_code_28 : decode cX12_code 28 = .ok (.getfield 10, 3) := by decide +kernel
theorem dX12_code_31 : decode cX12_code 31 = .ok (.getfield 263, 3) := by decide +kernel
theorem dX12_code_34 : decode cX12_code 34 = .ok (.iload_n 1, 1) := by decide +kernel
theorem dX12_code_35 : decode cX12_code 35 = .ok (.invokevirtual 332, 3) := by decide +kernel
theorem dX12_code_38 : decode cX12_code 38 = .ok (.goto 5, 3) := by decide +kernel
theorem dX12_code_41 : decode cX12_code 41 = .ok (.bipush (-2), 2) := by decide +kernel
theorem dX12_code_43 : decode cX12_code 43 = .ok (.ireturn, 1) := by decide +kernel
theorem BX12_code_0 {d bc bs : Nat} {h : aH} {n : Nat} {Q : aQ} {r0 : Option Nat} {x1 : Int} (kt : x1 ≠ (-1) → Rn d bc bs mX12_code 16 [some (vR r0), some (vI x1)] [] h n Q) (kf : x1 = (-1) → Rn d bc bs mX12_code 5 [some (vR r0), some (vI x1)] [] h n Q) : Rn d (bc) (bs) mX12_code 0 [some (vR r0), some (vI x1)] [] h n Q := by
  refine Rn_iload_n dX12_code_0 rfl rfl ?_
  refine Rn_iconst dX12_code_1 rfl ?_
  refine Rn_icmpne (tgt := 16) dX12_code_2 rfl ?_ ?_
  · exact kt
  · exact kf
theorem BX12_code_5 {d bc bs : Nat} {h : aH} {n : Nat} {Q : aQ} {ar0 at3 at7 : Nat} {x1 : Int} {f1 f5 f9 : List aV} (h2 : h ar0 = cO 12 f1) (g4 : f1[0]? = some (vR (some at3))) (h6 : h at3 = cO 11 f5) (g8 : f5[3]? = some (vR (some at7))) (h10 : h at7 = cO 5 f9) (k : Rn d 0 0 mX5_forgetCodes 0 [some (vR (some at7))] [] h n (fun v h1 n1 => Rn (d + 1) bc bs mX12_code 15 [some (vR (some ar0)), some (vI x1)] (v.toList ++ []) h1 n1 Q)) : Rn (d + 1) (bc) (bs) mX12_code 5 [some (vR (some ar0)), some (vI x1)] [] h n Q := by
  refine Rn_aload_n dX12_code_5 rfl rfl rfl ?_
  refine Rn_getfield (ci := 12) (k := 0) dX12_code_6 rfl in_12 (Nat.le_of_ble_eq_true rfl) wd_460 rfl h2 g4 ?_
  refine Rn_getfield (ci := 11) (k := 3) dX12_code_9 rfl in_11 (Nat.le_of_ble_eq_true rfl) wd_299 rfl h6 g8 ?_
  exact Rn_callV (ci := 5) (avs := []) (st := []) (bc1 := 0) (bs1 := 0) (bc2 := bc) (bs2 := bs) fx_X5_forgetCodes dX12_code_12 wd_1156 wd_1157 wd_1158 rfl h10 rfl (Nat.le_of_ble_eq_true rfl) (Nat.le_of_ble_eq_true rfl) (by omega) (by omega) (ls1 := [some (vR (some at7))]) rfl k
theorem BX12_code_15 {d bc bs : Nat} {h : aH} {n : Nat} {Q : aQ} {r0 : Option Nat} {x1 s0 : Int} (k : Q (some (vI s0)) h n) : Rn d (bc) (bs) mX12_code 15 [some (vR r0), some (vI x1)] [vI s0] h n Q := by
  exact Rn_ireturn rfl dX12_code_15 k
theorem BX12_code_16 {d bc bs : Nat} {h : aH} {n : Nat} {Q : aQ} {ar0 at3 : Nat} {x1 : Int} {f1 f5 : List aV} (h2 : h ar0 = cO 12 f1) (g4 : f1[6]? = some (vR (some at3))) (h6 : h at3 = cO 3 f5) (k : Rn d 0 0 mX3_isWord 0 [some (vR (some at3)), some (vI x1), none, none] [] h n (fun v h1 n1 => Rn (d + 1) bc bs mX12_code 24 [some (vR (some ar0)), some (vI x1)] (v.toList ++ []) h1 n1 Q)) : Rn (d + 1) (bc) (bs) mX12_code 16 [some (vR (some ar0)), some (vI x1)] [] h n Q := by
  refine Rn_aload_n dX12_code_16 rfl rfl rfl ?_
  refine Rn_getfield (ci := 12) (k := 6) dX12_code_17 rfl in_12 (Nat.le_of_ble_eq_true rfl) wd_466 rfl h2 g4 ?_
  refine Rn_iload_n dX12_code_20 rfl rfl ?_
  exact Rn_callV (ci := 3) (avs := [vI x1]) (st := []) (bc1 := 0) (bs1 := 0) (bc2 := bc) (bs2 := bs) fx_X3_isWord dX12_code_21 wd_1160 wd_1161 wd_1162 rfl h6 rfl (Nat.le_of_ble_eq_true rfl) (Nat.le_of_ble_eq_true rfl) (by omega) (by omega) (ls1 := [some (vR (some at3)), some (vI x1), none, none]) rfl k
theorem BX12_code_24 {d bc bs : Nat} {h : aH} {n : Nat} {Q : aQ} {r0 : Option Nat} {x1 s0 : Int} (kt : s0 = 0 → Rn d bc bs mX12_code 41 [some (vR r0), some (vI x1)] [] h n Q) (kf : s0 ≠ 0 → Rn d bc bs mX12_code 27 [some (vR r0), some (vI x1)] [] h n Q) : Rn d (bc) (bs) mX12_code 24 [some (vR r0), some (vI x1)] [vI s0] h n Q := by
  refine Rn_ifeq (tgt := 41) dX12_code_24 rfl ?_ ?_
  · exact kt
  · exact kf
theorem BX12_code_27 {d bc bs : Nat} {h : aH} {n : Nat} {Q : aQ} {ar0 at3 at7 : Nat} {x1 : Int} {f1 f5 f9 : List aV} (h2 : h ar0 = cO 12 f1) (g4 : f1[0]? = some (vR (some at3))) (h6 : h at3 = cO 11 f5) (g8 : f5[3]? = some (vR (some at7))) (h10 : h at7 = cO 5 f9) (k : Rn d 0 0 mX5_addCode 0 [some (vR (some at7)), some (vI x1), none] [] h n (fun v h1 n1 => Rn (d + 1) bc bs mX12_code 38 [some (vR (some ar0)), some (vI x1)] (v.toList ++ []) h1 n1 Q)) : Rn (d + 1) (bc) (bs) mX12_code 27 [some (vR (some ar0)), some (vI x1)] [] h n Q := by
  refine Rn_aload_n dX12_code_27 rfl rfl rfl ?_
  refine Rn_getfield (ci := 12) (k := 0) dX12_code_28 rfl in_12 (Nat.le_of_ble_eq_true rfl) wd_460 rfl h2 g4 ?_
  refine Rn_getfield (ci := 11) (k := 3) dX12_code_31 rfl in_11 (Nat.le_of_ble_eq_true rfl) wd_299 rfl h6 g8 ?_
  refine Rn_iload_n dX12_code_34 rfl rfl ?_
  exact Rn_callV (ci := 5) (avs := [vI x1]) (st := []) (bc1 := 0) (bs1 := 0) (bc2 := bc) (bs2 := bs) fx_X5_addCode dX12_code_35 wd_1165 wd_1166 wd_1167 rfl h10 rfl (Nat.le_of_ble_eq_true rfl) (Nat.le_of_ble_eq_true rfl) (by omega) (by omega) (ls1 := [some (vR (some at7)), some (vI x1), none]) rfl k
theorem BX12_code_38 {d bc bs : Nat} {h : aH} {n : Nat} {Q : aQ} {r0 : Option Nat} {x1 s0 : Int} (k : Q (some (vI s0)) h n) : Rn d (bc) (bs) mX12_code 38 [some (vR r0), some (vI x1)] [vI s0] h n Q := by
  refine Rn_goto (tgt := 43) dX12_code_38 rfl ?_
  exact Rn_ireturn rfl dX12_code_43 k
theorem BX12_code_41 {d bc bs : Nat} {h : aH} {n : Nat} {Q : aQ} {r0 : Option Nat} {x1 : Int} (k : Q (some (vI (-2))) h n) : Rn d (bc) (bs) mX12_code 41 [some (vR r0), some (vI x1)] [] h n Q := by
  refine Rn_bipush dX12_code_41 rfl ?_
  exact Rn_ireturn rfl dX12_code_43 k
theorem dX12_clear_0 : decode cX12_clear 0 = .ok (.iload_n 1, 1) := by decide +kernel
theorem dX12_clear_1 : decode cX12_clear 1 = .ok (.iconst 0, 1) := by decide +kernel
theorem dX12_clear_2 : decode cX12_clear 2 = .ok (.iconst 1, 1) := by decide +kernel
theorem dX12_clear_3 : decode cX12_clear 3 = .ok (.invokestatic 93, 3) := by decide +kernel
theorem dX12_clear_6 : decode cX12_clear 6 = .ok (.ifCond .ne 5, 3) := by decide +kernel
theorem dX12_clear_9 : decode cX12_clear 9 = .ok (.iconst (-1), 1) := by decide +kernel
theorem dX12_clear_10 : decode cX12_clear 10 = .ok (.ireturn, 1) := by decide +kernel
theorem dX12_clear_11 : decode cX12_clear 11 = .ok (.aload_n 0, 1) := by decide +kernel
theorem dX12_clear_12 : decode cX12_clear 12 = .ok (.getfield 50, 3) := by decide +kernel
theorem dX12_clear_15 : decode cX12_clear 15 = .ok (.aload_n 0, 1) := by decide +kernel
theorem dX12_clear_16 : decode cX12_clear 16 = .ok (.getfield 10, 3) := by decide +kernel
theorem dX12_clear_19 : decode cX12_clear 19 = .ok (.getfield 263, 3) := by decide +kernel
theorem dX12_clear_22 : decode cX12_clear 22 = .ok (.invokevirtual 335, 3) := by decide +kernel
theorem dX12_clear_25 : decode cX12_clear 25 = .ok (.istore_n 2, 1) := by decide +kernel
theorem dX12_clear_26 : decode cX12_clear 26 = .ok (.iload_n 1, 1) := by decide +kernel
theorem dX12_clear_27 : decode cX12_clear 27 = .ok (.iconst 1, 1) := by decide +kernel
theorem dX12_clear_28 : decode cX12_clear 28 = .ok (.if_icmp .ne 5, 3) := by decide +kernel
theorem dX12_clear_31 : decode cX12_clear 31 = .ok (.iload_n 2, 1) := by decide +kernel
theorem dX12_clear_32 : decode cX12_clear 32 = .ok (.ireturn, 1) := by decide +kernel
theorem dX12_clear_33 : decode cX12_clear 33 = .ok (.iload_n 2, 1) := by decide +kernel
theorem dX12_clear_34 : decode cX12_clear 34 = .ok (.iconst (-1), 1) := by decide +kernel
theorem dX12_clear_35 : decode cX12_clear 35 = .ok (.if_icmp .ne 7, 3) := by decide +kernel
theorem dX12_clear_38 : decode cX12_clear 38 = .ok (.iconst 1, 1) := by decide +kernel
theorem dX12_clear_39 : decode cX12_clear 39 = .ok (.goto 4, 3) := by decide +kernel
theorem dX12_clear_42 : decode cX12_clear 42 = .ok (.iconst 0, 1) := by decide +kernel
theorem dX12_clear_43 : decode cX12_clear 43 = .ok (.ireturn, 1) := by decide +kernel
theorem BX12_clear_0 {d bc bs : Nat} {h : aH} {n : Nat} {Q : aQ} {r0 : Option Nat} {x1 : Int} {l2 : Option aV} (k : Rn d 0 0 mX12_within 0 [some (vI x1), some (vI 0), some (vI 1)] [] h n (fun v h1 n1 => Rn (d + 1) bc bs mX12_clear 6 [some (vR r0), some (vI x1), l2] (v.toList ++ []) h1 n1 Q)) : Rn (d + 1) (bc) (bs) mX12_clear 0 [some (vR r0), some (vI x1), l2] [] h n Q := by
  refine Rn_iload_n dX12_clear_0 rfl rfl ?_
  refine Rn_iconst dX12_clear_1 rfl ?_
  refine Rn_iconst dX12_clear_2 rfl ?_
  exact Rn_callS (avs := [vI x1, vI 0, vI 1]) (st := []) (bc1 := 0) (bs1 := 0) (bc2 := bc) (bs2 := bs) fx_X12_within dX12_clear_3 (Or.inl wd_502) wd_503 rfl (Nat.le_of_ble_eq_true rfl) (Nat.le_of_ble_eq_true rfl) (by omega) (by omega) (ls1 := [some (vI x1), some (vI 0), some (vI 1)]) rfl k
theorem BX12_clear_6 {d bc bs : Nat} {h : aH} {n : Nat} {Q : aQ} {r0 : Option Nat} {x1 s0 : Int} {l2 : Option aV} (kt : s0 ≠ 0 → Rn d bc bs mX12_clear 11 [some (vR r0), some (vI x1), l2] [] h n Q) (kf : s0 = 0 → Rn d bc bs mX12_clear 9 [some (vR r0), some (vI x1), l2] [] h n Q) : Rn d (bc) (bs) mX12_clear 6 [some (vR r0), some (vI x1), l2] [vI s0] h n Q := by
  refine Rn_ifne (tgt := 11) dX12_clear_6 rfl ?_ ?_
  · exact kt
  · exact kf
theorem BX12_clear_9 {d bc bs : Nat} {h : aH} {n : Nat} {Q : aQ} {r0 : Option Nat} {x1 : Int} {l2 : Option aV} (k : Q (some (vI (-1))) h n) : Rn d (bc) (bs) mX12_clear 9 [some (vR r0), some (vI x1), l2] [] h n Q := by
  refine Rn_iconst dX12_clear_9 rfl ?_
  exact Rn_ireturn rfl dX12_clear_10 k
theorem BX12_clear_11 {d bc bs : Nat} {h : aH} {n : Nat} {Q : aQ} {ar0 at3 at5 : Nat} {x1 : Int} {l2 : Option aV} {f1 f7 f11 : List aV} {t9 : Option Nat} (h2 : h ar0 = cO 12 f1) (g4 : f1[6]? = some (vR (some at3))) (g6 : f1[0]? = some (vR (some at5))) (h8 : h at5 = cO 11 f7) (g10 : f7[3]? = some (vR t9)) (h12 : h at3 = cO 3 f11) (k : Rn d 0 0 mX3_shortestUnclear 0 [some (vR (some at3)), some (vR t9), none, none, none, none] [] h n (fun v h1 n1 => Rn (d + 1) bc bs mX12_clear 25 [some (vR (some ar0)), some (vI x1), l2] (v.toList ++ []) h1 n1 Q)) : Rn (d + 1) (bc) (bs) mX12_clear 11 [some (vR (some ar0)), some (vI x1), l2] [] h n Q := by
  refine Rn_aload_n dX12_clear_11 rfl rfl rfl ?_
  refine Rn_getfield (ci := 12) (k := 6) dX12_clear_12 rfl in_12 (Nat.le_of_ble_eq_true rfl) wd_466 rfl h2 g4 ?_
  refine Rn_aload_n dX12_clear_15 rfl rfl rfl ?_
  refine Rn_getfield (ci := 12) (k := 0) dX12_clear_16 rfl in_12 (Nat.le_of_ble_eq_true rfl) wd_460 rfl h2 g6 ?_
  refine Rn_getfield (ci := 11) (k := 3) dX12_clear_19 rfl in_11 (Nat.le_of_ble_eq_true rfl) wd_299 rfl h8 g10 ?_
  exact Rn_callV (ci := 3) (avs := [vR t9]) (st := []) (bc1 := 0) (bs1 := 0) (bc2 := bc) (bs2 := bs) fx_X3_shortestUnclear dX12_clear_22 wd_1177 wd_1178 wd_1179 rfl h12 rfl (Nat.le_of_ble_eq_true rfl) (Nat.le_of_ble_eq_true rfl) (by omega) (by omega) (ls1 := [some (vR (some at3)), some (vR t9), none, none, none, none]) rfl k
theorem BX12_clear_25 {d bc bs : Nat} {h : aH} {n : Nat} {Q : aQ} {r0 : Option Nat} {x1 s0 : Int} {l2 : Option aV} (kt : x1 ≠ 1 → Rn d bc bs mX12_clear 33 [some (vR r0), some (vI x1), some (vI s0)] [] h n Q) (kf : x1 = 1 → Rn d bc bs mX12_clear 31 [some (vR r0), some (vI x1), some (vI s0)] [] h n Q) : Rn d (bc) (bs) mX12_clear 25 [some (vR r0), some (vI x1), l2] [vI s0] h n Q := by
  refine Rn_istore_n dX12_clear_25 rfl (Nat.le_of_ble_eq_true rfl) rfl rfl ?_
  refine Rn_iload_n dX12_clear_26 rfl rfl ?_
  refine Rn_iconst dX12_clear_27 rfl ?_
  refine Rn_icmpne (tgt := 33) dX12_clear_28 rfl ?_ ?_
  · exact kt
  · exact kf
theorem BX12_clear_31 {d bc bs : Nat} {h : aH} {n : Nat} {Q : aQ} {r0 : Option Nat} {x1 x2 : Int} (k : Q (some (vI x2)) h n) : Rn d (bc) (bs) mX12_clear 31 [some (vR r0), some (vI x1), some (vI x2)] [] h n Q := by
  refine Rn_iload_n dX12_clear_31 rfl rfl ?_
  exact Rn_ireturn rfl dX12_clear_32 k
theorem BX12_clear_33 {d bc bs : Nat} {h : aH} {n : Nat} {Q : aQ} {r0 : Option Nat} {x1 x2 : Int} (kt : x2 ≠ (-1) → Rn d bc bs mX12_clear 42 [some (vR r0), some (vI x1), some (vI x2)] [] h n Q) (kf : x2 = (-1) → Rn d bc bs mX12_clear 38 [some (vR r0), some (vI x1), some (vI x2)] [] h n Q) : Rn d (bc) (bs) mX12_clear 33 [some (vR r0), some (vI x1), some (vI x2)] [] h n Q := by
  refine Rn_iload_n dX12_clear_33 rfl rfl ?_
  refine Rn_iconst dX12_clear_34 rfl ?_
  refine Rn_icmpne (tgt := 42) dX12_clear_35 rfl ?_ ?_
  · exact kt
  · exact kf
theorem BX12_clear_38 {d bc bs : Nat} {h : aH} {n : Nat} {Q : aQ} {r0 : Option Nat} {x1 x2 : Int} (k : Q (some (vI 1)) h n) : Rn d (bc) (bs) mX12_clear 38 [some (vR r0), some (vI x1), some (vI x2)] [] h n Q := by
  refine Rn_iconst dX12_clear_38 rfl ?_
  refine Rn_goto (tgt := 43) dX12_clear_39 rfl ?_
  exact Rn_ireturn rfl dX12_clear_43 k
theorem BX12_clear_42 {d bc bs : Nat} {h : aH} {n : Nat} {Q : aQ} {r0 : Option Nat} {x1 x2 : Int} (k : Q (some (vI 0)) h n) : Rn d (bc) (bs) mX12_clear 42 [some (vR r0), some (vI x1), some (vI x2)] [] h n Q := by
  refine Rn_iconst dX12_clear_42 rfl ?_
  exact Rn_ireturn rfl dX12_clear_43 k
theorem dX12_reads_0 : decode cX12_reads 0 = .ok (.iload_n 1, 1) := by decide +kernel
theorem dX12_reads_1 : decode cX12_reads 1 = .ok (.iconst 1, 1) := by decide +kernel
theorem dX12_reads_2 : decode cX12_reads 2 = .ok (.ldc_w 339, 3) := by decide +kernel
theorem dX12_reads_5 : decode cX12_reads 5 = .ok (.invokestatic 93, 3) := by decide +kernel
theorem dX12_reads_8 : decode cX12_reads 8 = .ok (.ifCond .ne 7, 3) := by decide +kernel
theorem dX12_reads_11 : decode cX12_reads 11 = .ok (.ldc2_w 312, 3) := by decide +kernel
theorem dX12_reads_14 : decode cX12_reads 14 = .ok (.lreturn, 1) := by decide +kernel
theorem dX12_reads_15 : decode cX12_reads 15 = .ok (.aload_n 0, 1) := by decide +kernel
theorem dX12_reads_16 : decode cX12_reads 16 = .ok (.getfield 50, 3) := by decide +kernel
theorem dX12_reads_19 : decode cX12_reads 19 = .ok (.aload_n 0, 1) := by decide +kernel
theorem dX12_reads_20 : decode cX12_reads 20 = .ok (.getfield 10, 3) := by decide +kernel
theorem dX12_reads_23 : decode cX12_reads 23 = .ok (.getfield 263, 3) := by decide +kernel
theorem dX12_reads_26 : decode cX12_reads 26 = .ok (.iload_n 1, 1) := by decide +kernel
theorem dX12_reads_27 : decode cX12_reads 27 = .ok (.invokevirtual 340, 3) := by decide +kernel
theorem dX12_reads_30 : decode cX12_reads 30 = .ok (.lreturn, 1) := by decide +kernel
theorem BX12_reads_0 {d bc bs : Nat} {h : aH} {n : Nat} {Q : aQ} {r0 : Option Nat} {x1 : Int} (k : Rn d 0 0 mX12_within 0 [some (vI x1), some (vI 1), some (vI 999999999)] [] h n (fun v h1 n1 => Rn (d + 1) bc bs mX12_reads 8 [some (vR r0), some (vI x1)] (v.toList ++ []) h1 n1 Q)) : Rn (d + 1) (bc) (bs) mX12_reads 0 [some (vR r0), some (vI x1)] [] h n Q := by
  refine Rn_iload_n dX12_reads_0 rfl rfl ?_
  refine Rn_iconst dX12_reads_1 rfl ?_
  refine Rn_ldcw dX12_reads_2 wd_1219 rfl ?_
  exact Rn_callS (avs := [vI x1, vI 1, vI 999999999]) (st := []) (bc1 := 0) (bs1 := 0) (bc2 := bc) (bs2 := bs) fx_X12_within dX12_reads_5 (Or.inl wd_502) wd_503 rfl (Nat.le_of_ble_eq_true rfl) (Nat.le_of_ble_eq_true rfl) (by omega) (by omega) (ls1 := [some (vI x1), some (vI 1), some (vI 999999999)]) rfl k
theorem BX12_reads_8 {d bc bs : Nat} {h : aH} {n : Nat} {Q : aQ} {r0 : Option Nat} {x1 s0 : Int} (kt : s0 ≠ 0 → Rn d bc bs mX12_reads 15 [some (vR r0), some (vI x1)] [] h n Q) (kf : s0 = 0 → Rn d bc bs mX12_reads 11 [some (vR r0), some (vI x1)] [] h n Q) : Rn d (bc) (bs) mX12_reads 8 [some (vR r0), some (vI x1)] [vI s0] h n Q := by
  refine Rn_ifne (tgt := 15) dX12_reads_8 rfl ?_ ?_
  · exact kt
  · exact kf
theorem BX12_reads_11 {d bc bs : Nat} {h : aH} {n : Nat} {Q : aQ} {r0 : Option Nat} {x1 : Int} (k : Q (some (vL (-1))) h n) : Rn d (bc) (bs) mX12_reads 11 [some (vR r0), some (vI x1)] [] h n Q := by
  refine Rn_ldc2 (x := (-1)) dX12_reads_11 wd_1143 rfl ?_
  exact Rn_lreturn rfl dX12_reads_14 k
theorem BX12_reads_15 {d bc bs : Nat} {h : aH} {n : Nat} {Q : aQ} {ar0 at3 at5 : Nat} {x1 : Int} {f1 f7 f11 : List aV} {t9 : Option Nat} (h2 : h ar0 = cO 12 f1) (g4 : f1[6]? = some (vR (some at3))) (g6 : f1[0]? = some (vR (some at5))) (h8 : h at5 = cO 11 f7) (g10 : f7[3]? = some (vR t9)) (h12 : h at3 = cO 3 f11) (k : Rn d 0 0 mX3_countReadings 0 [some (vR (some at3)), some (vR t9), some (vI x1), none, none, none, none, none, none] [] h n (fun v h1 n1 => Rn (d + 1) bc bs mX12_reads 30 [some (vR (some ar0)), some (vI x1)] (v.toList ++ []) h1 n1 Q)) : Rn (d + 1) (bc) (bs) mX12_reads 15 [some (vR (some ar0)), some (vI x1)] [] h n Q := by
  refine Rn_aload_n dX12_reads_15 rfl rfl rfl ?_
  refine Rn_getfield (ci := 12) (k := 6) dX12_reads_16 rfl in_12 (Nat.le_of_ble_eq_true rfl) wd_466 rfl h2 g4 ?_
  refine Rn_aload_n dX12_reads_19 rfl rfl rfl ?_
  refine Rn_getfield (ci := 12) (k := 0) dX12_reads_20 rfl in_12 (Nat.le_of_ble_eq_true rfl) wd_460 rfl h2 g6 ?_
  refine Rn_getfield (ci := 11) (k := 3) dX12_reads_23 rfl in_11 (Nat.le_of_ble_eq_true rfl) wd_299 rfl h8 g10 ?_
  refine Rn_iload_n dX12_reads_26 rfl rfl ?_
  exact Rn_callV (ci := 3) (avs := [vR t9, vI x1]) (st := []) (bc1 := 0) (bs1 := 0) (bc2 := bc) (bs2 := bs) fx_X3_countReadings dX12_reads_27 wd_1220 wd_1221 wd_1222 rfl h12 rfl (Nat.le_of_ble_eq_true rfl) (Nat.le_of_ble_eq_true rfl) (by omega) (by omega) (ls1 := [some (vR (some at3)), some (vR t9), some (vI x1), none, none, none, none, none, none]) rfl k
theorem BX12_reads_30 {d bc bs : Nat} {h : aH} {n : Nat} {Q : aQ} {r0 : Option Nat} {x1 s0 : Int} (k : Q (some (vL s0)) h n) : Rn d (bc) (bs) mX12_reads 30 [some (vR r0), some (vI x1)] [vL s0] h n Q := by
  exact Rn_lreturn rfl dX12_reads_30 k
theorem dX12_halves_0 : decode cX12_halves 0 = .ok (.aload_n 0, 1) := by decide +kernel
theorem dX12_halves_1 : decode cX12_halves 1 = .ok (.getfield 10, 3) := by decide +kernel
theorem dX12_halves_4 : decode cX12_halves 4 = .ok (.getfield 263, 3) := by decide +kernel
theorem dX12_halves_7 : decode cX12_halves 7 = .ok (.iload_n 1, 1) := by decide +kernel
theorem dX12_halves_8 : decode cX12_halves 8 = .ok (.iload_n 2, 1) := by decide +kernel
theorem dX12_halves_9 : decode cX12_halves 9 = .ok (.invokevirtual 344, 3) := by decide +kernel
theorem dX12_halves_12 : decode cX12_halves 12 = .ok (.ireturn, 1) := by decide +kernel
theorem BX12_halves_0 {d bc bs : Nat} {h : aH} {n : Nat} {Q : aQ} {ar0 at3 at7 : Nat} {x1 x2 : Int} {f1 f5 f9 : List aV} (h2 : h ar0 = cO 12 f1) (g4 : f1[0]? = some (vR (some at3))) (h6 : h at3 = cO 11 f5) (g8 : f5[3]? = some (vR (some at7))) (h10 : h at7 = cO 5 f9) (k : Rn d 0 0 mX5_addHalves 0 [some (vR (some at7)), some (vI x1), some (vI x2)] [] h n (fun v h1 n1 => Rn (d + 1) bc bs mX12_halves 12 [some (vR (some ar0)), some (vI x1), some (vI x2)] (v.toList ++ []) h1 n1 Q)) : Rn (d + 1) (bc) (bs) mX12_halves 0 [some (vR (some ar0)), some (vI x1), some (vI x2)] [] h n Q := by
  refine Rn_aload_n dX12_halves_0 rfl rfl rfl ?_
  refine Rn_getfield (ci := 12) (k := 0) dX12_halves_1 rfl in_12 (Nat.le_of_ble_eq_true rfl) wd_460 rfl h2 g4 ?_
  refine Rn_getfield (ci := 11) (k := 3) dX12_halves_4 rfl in_11 (Nat.le_of_ble_eq_true rfl) wd_299 rfl h6 g8 ?_
  refine Rn_iload_n dX12_halves_7 rfl rfl ?_
  refine Rn_iload_n dX12_halves_8 rfl rfl ?_
  exact Rn_callV (ci := 5) (avs := [vI x1, vI x2]) (st := []) (bc1 := 0) (bs1 := 0) (bc2 := bc) (bs2 := bs) fx_X5_addHalves dX12_halves_9 wd_1228 wd_1229 wd_1230 rfl h10 rfl (Nat.le_of_ble_eq_true rfl) (Nat.le_of_ble_eq_true rfl) (by omega) (by omega) (ls1 := [some (vR (some at7)), some (vI x1), some (vI x2)]) rfl k
theorem BX12_halves_12 {d bc bs : Nat} {h : aH} {n : Nat} {Q : aQ} {r0 : Option Nat} {x1 x2 s0 : Int} (b1 : s0 = 0 ∨ s0 = 1) (k : Q (some (vI s0)) h n) : Rn d (bc) (bs) mX12_halves 12 [some (vR r0), some (vI x1), some (vI x2)] [vI s0] h n Q := by
  exact Rn_zreturn rfl dX12_halves_12 b1 k
theorem dX12_sorters_0 : decode cX12_sorters 0 = .ok (.iload_n 1, 1) := by decide +kernel
theorem dX12_sorters_1 : decode cX12_sorters 1 = .ok (.iconst 0, 1) := by decide +kernel
theorem dX12_sorters_2 : decode cX12_sorters 2 = .ok (.bipush 8, 2) := by decide +kernel
theorem dX12_sorters_4 : decode cX12_sorters 4 = .ok (.invokestatic 93, 3) := by decide +kernel
theorem dX12_sorters_7 : decode cX12_sorters 7 = .ok (.ifCond .ne 5, 3) := by decide +kernel
theorem dX12_sorters_10 : decode cX12_sorters 10 = .ok (.iconst (-1), 1) := by decide +kernel
theorem dX12_sorters_11 : decode cX12_sorters 11 = .ok (.ireturn, 1) := by decide +kernel
theorem dX12_sorters_12 : decode cX12_sorters 12 = .ok (.aload_n 0, 1) := by decide +kernel
theorem dX12_sorters_13 : decode cX12_sorters 13 = .ok (.getfield 50, 3) := by decide +kernel
theorem dX12_sorters_16 : decode cX12_sorters 16 = .ok (.aload_n 0, 1) := by decide +kernel
theorem dX12_sorters_17 : decode cX12_sorters 17 = .ok (.getfield 10, 3) := by decide +kernel
theorem dX12_sorters_20 : decode cX12_sorters 20 = .ok (.getfield 263, 3) := by decide +kernel
theorem dX12_sorters_23 : decode cX12_sorters 23 = .ok (.iload_n 1, 1) := by decide +kernel
theorem dX12_sorters_24 : decode cX12_sorters 24 = .ok (.invokevirtual 348, 3) := by decide +kernel
theorem dX12_sorters_27 : decode cX12_sorters 27 = .ok (.ireturn, 1) := by decide +kernel
theorem BX12_sorters_0 {d bc bs : Nat} {h : aH} {n : Nat} {Q : aQ} {r0 : Option Nat} {x1 : Int} (k : Rn d 0 0 mX12_within 0 [some (vI x1), some (vI 0), some (vI 8)] [] h n (fun v h1 n1 => Rn (d + 1) bc bs mX12_sorters 7 [some (vR r0), some (vI x1)] (v.toList ++ []) h1 n1 Q)) : Rn (d + 1) (bc) (bs) mX12_sorters 0 [some (vR r0), some (vI x1)] [] h n Q := by
  refine Rn_iload_n dX12_sorters_0 rfl rfl ?_
  refine Rn_iconst dX12_sorters_1 rfl ?_
  refine Rn_bipush dX12_sorters_2 rfl ?_
  exact Rn_callS (avs := [vI x1, vI 0, vI 8]) (st := []) (bc1 := 0) (bs1 := 0) (bc2 := bc) (bs2 := bs) fx_X12_within dX12_sorters_4 (Or.inl wd_502) wd_503 rfl (Nat.le_of_ble_eq_true rfl) (Nat.le_of_ble_eq_true rfl) (by omega) (by omega) (ls1 := [some (vI x1), some (vI 0), some (vI 8)]) rfl k
theorem BX12_sorters_7 {d bc bs : Nat} {h : aH} {n : Nat} {Q : aQ} {r0 : Option Nat} {x1 s0 : Int} (kt : s0 ≠ 0 → Rn d bc bs mX12_sorters 12 [some (vR r0), some (vI x1)] [] h n Q) (kf : s0 = 0 → Rn d bc bs mX12_sorters 10 [some (vR r0), some (vI x1)] [] h n Q) : Rn d (bc) (bs) mX12_sorters 7 [some (vR r0), some (vI x1)] [vI s0] h n Q := by
  refine Rn_ifne (tgt := 12) dX12_sorters_7 rfl ?_ ?_
  · exact kt
  · exact kf
theorem BX12_sorters_10 {d bc bs : Nat} {h : aH} {n : Nat} {Q : aQ} {r0 : Option Nat} {x1 : Int} (k : Q (some (vI (-1))) h n) : Rn d (bc) (bs) mX12_sorters 10 [some (vR r0), some (vI x1)] [] h n Q := by
  refine Rn_iconst dX12_sorters_10 rfl ?_
  exact Rn_ireturn rfl dX12_sorters_11 k
theorem BX12_sorters_12 {d bc bs : Nat} {h : aH} {n : Nat} {Q : aQ} {ar0 at3 at5 : Nat} {x1 : Int} {f1 f7 f11 : List aV} {t9 : Option Nat} (h2 : h ar0 = cO 12 f1) (g4 : f1[6]? = some (vR (some at3))) (g6 : f1[0]? = some (vR (some at5))) (h8 : h at5 = cO 11 f7) (g10 : f7[3]? = some (vR t9)) (h12 : h at3 = cO 3 f11) (k : Rn d 0 0 mX3_fewestSorters 0 [some (vR (some at3)), some (vR t9), some (vI x1), none] [] h n (fun v h1 n1 => Rn (d + 1) bc bs mX12_sorters 27 [some (vR (some ar0)), some (vI x1)] (v.toList ++ []) h1 n1 Q)) : Rn (d + 1) (bc) (bs) mX12_sorters 12 [some (vR (some ar0)), some (vI x1)] [] h n Q := by
  refine Rn_aload_n dX12_sorters_12 rfl rfl rfl ?_
  refine Rn_getfield (ci := 12) (k := 6) dX12_sorters_13 rfl in_12 (Nat.le_of_ble_eq_true rfl) wd_466 rfl h2 g4 ?_
  refine Rn_aload_n dX12_sorters_16 rfl rfl rfl ?_
  refine Rn_getfield (ci := 12) (k := 0) dX12_sorters_17 rfl in_12 (Nat.le_of_ble_eq_true rfl) wd_460 rfl h2 g6 ?_
  refine Rn_getfield (ci := 11) (k := 3) dX12_sorters_20 rfl in_11 (Nat.le_of_ble_eq_true rfl) wd_299 rfl h8 g10 ?_
  refine Rn_iload_n dX12_sorters_23 rfl rfl ?_
  exact Rn_callV (ci := 3) (avs := [vR t9, vI x1]) (st := []) (bc1 := 0) (bs1 := 0) (bc2 := bc) (bs2 := bs) fx_X3_fewestSorters dX12_sorters_24 wd_1244 wd_1245 wd_1246 rfl h12 rfl (Nat.le_of_ble_eq_true rfl) (Nat.le_of_ble_eq_true rfl) (by omega) (by omega) (ls1 := [some (vR (some at3)), some (vR t9), some (vI x1), none]) rfl k
theorem BX12_sorters_27 {d bc bs : Nat} {h : aH} {n : Nat} {Q : aQ} {r0 : Option Nat} {x1 s0 : Int} (k : Q (some (vI s0)) h n) : Rn d (bc) (bs) mX12_sorters 27 [some (vR r0), some (vI x1)] [vI s0] h n Q := by
  exact Rn_ireturn rfl dX12_sorters_27 k
theorem dX12_sorter_0 : decode cX12_sorter 0 = .ok (.iload_n 1, 1) := by decide +kernel
theorem dX12_sorter_1 : decode cX12_sorter 1 = .ok (.iconst 0, 1) := by decide +kernel
theorem dX12_sorter_2 : decode cX12_sorter 2 = .ok (.bipush 8, 2) := by decide +kernel
theorem dX12_sorter_4 : decode cX12_sorter 4 = .ok (.invokestatic 93, 3) := by decide +kernel
theorem dX12_sorter_7 : decode cX12_sorter 7 = .ok (.ifCond .eq 14, 3) := by decide +kernel
theorem dX12_sorter_10 : decode cX12_sorter 10 = .ok (.iload_n 2, 1) := by decide +kernel
theorem dX12_sorter_11 : decode cX12_sorter 11 = .ok (.iconst 0, 1) := by decide +kernel
theorem dX12_sorter_12 : decode cX12_sorter 12 = .ok (.iload_n 1, 1) := by decide +kernel
theorem dX12_sorter_13 : decode cX12_sorter 13 = .ok (.iconst 1, 1) := by decide +kernel
theorem dX12_sorter_14 : decode cX12_sorter 14 = .ok (.isub, 1) := by decide +kernel
theorem dX12_sorter_15 : decode cX12_sorter 15 = .ok (.invokestatic 93, 3) := by decide +kernel
theorem dX12_sorter_18 : decode cX12_sorter 18 = .ok (.ifCond .ne 5, 3) := by decide +kernel
theorem dX12_sorter_21 : decode cX12_sorter 21 = .ok (.iconst (-1), 1) := by decide +kernel
theorem dX12_sorter_22 : decode cX12_sorter 22 = .ok (.ireturn, 1) := by decide +kernel
theorem dX12_sorter_23 : decode cX12_sorter 23 = .ok (.aload_n 0, 1) := by decide +kernel
theorem dX12_sorter_24 : decode cX12_sorter 24 = .ok (.getfield 50, 3) := by decide +kernel
theorem dX12_sorter_27 : decode cX12_sorter 27 = .ok (.aload_n 0, 1) := by decide +kernel
theorem dX12_sorter_28 : decode cX12_sorter 28 = .ok (.getfield 10, 3) := by decide +kernel
theorem dX12_sorter_31 : decode cX12_sorter 31 = .ok (.getfield 263, 3) := by decide +kernel
theorem dX12_sorter_34 : decode cX12_sorter 34 = .ok (.iload_n 1, 1) := by decide +kernel
theorem dX12_sorter_35 : decode cX12_sorter 35 = .ok (.invokevirtual 348, 3) := by decide +kernel
theorem dX12_sorter_38 : decode cX12_sorter 38 = .ok (.pop, 1) := by decide +kernel
theorem dX12_sorter_39 : decode cX12_sorter 39 = .ok (.aload_n 0, 1) := by decide +kernel
theorem dX12_sorter_40 : decode cX12_sorter 40 = .ok (.getfield 50, 3) := by decide +kernel
theorem dX12_sorter_43 : decode cX12_sorter 43 = .ok (.iload_n 2, 1) := by decide +kernel
theorem dX12_sorter_44 : decode cX12_sorter 44 = .ok (.invokevirtual 352, 3) := by decide +kernel
theorem dX12_sorter_47 : decode cX12_sorter 47 = .ok (.ireturn, 1) := by decide +kernel
theorem BX12_sorter_0 {d bc bs : Nat} {h : aH} {n : Nat} {Q : aQ} {r0 : Option Nat} {x1 x2 : Int} (k : Rn d 0 0 mX12_within 0 [some (vI x1), some (vI 0), some (vI 8)] [] h n (fun v h1 n1 => Rn (d + 1) bc bs mX12_sorter 7 [some (vR r0), some (vI x1), some (vI x2)] (v.toList ++ []) h1 n1 Q)) : Rn (d + 1) (bc) (bs) mX12_sorter 0 [some (vR r0), some (vI x1), some (vI x2)] [] h n Q := by
  refine Rn_iload_n dX12_sorter_0 rfl rfl ?_
  refine Rn_iconst dX12_sorter_1 rfl ?_
  refine Rn_bipush dX12_sorter_2 rfl ?_
  exact Rn_callS (avs := [vI x1, vI 0, vI 8]) (st := []) (bc1 := 0) (bs1 := 0) (bc2 := bc) (bs2 := bs) fx_X12_within dX12_sorter_4 (Or.inl wd_502) wd_503 rfl (Nat.le_of_ble_eq_true rfl) (Nat.le_of_ble_eq_true rfl) (by omega) (by omega) (ls1 := [some (vI x1), some (vI 0), some (vI 8)]) rfl k
theorem BX12_sorter_7 {d bc bs : Nat} {h : aH} {n : Nat} {Q : aQ} {r0 : Option Nat} {x1 x2 s0 : Int} (kt : s0 = 0 → Rn d bc bs mX12_sorter 21 [some (vR r0), some (vI x1), some (vI x2)] [] h n Q) (kf : s0 ≠ 0 → Rn d bc bs mX12_sorter 10 [some (vR r0), some (vI x1), some (vI x2)] [] h n Q) : Rn d (bc) (bs) mX12_sorter 7 [some (vR r0), some (vI x1), some (vI x2)] [vI s0] h n Q := by
  refine Rn_ifeq (tgt := 21) dX12_sorter_7 rfl ?_ ?_
  · exact kt
  · exact kf
theorem BX12_sorter_10 {d bc bs : Nat} {h : aH} {n : Nat} {Q : aQ} {r0 : Option Nat} {x1 x2 : Int} (b1 : -2147483648 ≤ x1 - 1 ∧ x1 - 1 < 2147483648) (k : Rn d 0 0 mX12_within 0 [some (vI x2), some (vI 0), some (vI (x1 - 1))] [] h n (fun v h1 n1 => Rn (d + 1) bc bs mX12_sorter 18 [some (vR r0), some (vI x1), some (vI x2)] (v.toList ++ []) h1 n1 Q)) : Rn (d + 1) (bc) (bs) mX12_sorter 10 [some (vR r0), some (vI x1), some (vI x2)] [] h n Q := by
  refine Rn_iload_n dX12_sorter_10 rfl rfl ?_
  refine Rn_iconst dX12_sorter_11 rfl ?_
  refine Rn_iload_n dX12_sorter_12 rfl rfl ?_
  refine Rn_iconst dX12_sorter_13 rfl ?_
  refine Rn_isub dX12_sorter_14 ?_
  rw [w32_id b1.1 b1.2]
  exact Rn_callS (avs := [vI x2, vI 0, vI (x1 - 1)]) (st := []) (bc1 := 0) (bs1 := 0) (bc2 := bc) (bs2 := bs) fx_X12_within dX12_sorter_15 (Or.inl wd_502) wd_503 rfl (Nat.le_of_ble_eq_true rfl) (Nat.le_of_ble_eq_true rfl) (by omega) (by omega) (ls1 := [some (vI x2), some (vI 0), some (vI (x1 - 1))]) rfl k
theorem BX12_sorter_18 {d bc bs : Nat} {h : aH} {n : Nat} {Q : aQ} {r0 : Option Nat} {x1 x2 s0 : Int} (kt : s0 ≠ 0 → Rn d bc bs mX12_sorter 23 [some (vR r0), some (vI x1), some (vI x2)] [] h n Q) (kf : s0 = 0 → Rn d bc bs mX12_sorter 21 [some (vR r0), some (vI x1), some (vI x2)] [] h n Q) : Rn d (bc) (bs) mX12_sorter 18 [some (vR r0), some (vI x1), some (vI x2)] [vI s0] h n Q := by
  refine Rn_ifne (tgt := 23) dX12_sorter_18 rfl ?_ ?_
  · exact kt
  · exact kf
theorem BX12_sorter_21 {d bc bs : Nat} {h : aH} {n : Nat} {Q : aQ} {r0 : Option Nat} {x1 x2 : Int} (k : Q (some (vI (-1))) h n) : Rn d (bc) (bs) mX12_sorter 21 [some (vR r0), some (vI x1), some (vI x2)] [] h n Q := by
  refine Rn_iconst dX12_sorter_21 rfl ?_
  exact Rn_ireturn rfl dX12_sorter_22 k
theorem BX12_sorter_23 {d bc bs : Nat} {h : aH} {n : Nat} {Q : aQ} {ar0 at3 at5 : Nat} {x1 x2 : Int} {f1 f7 f11 : List aV} {t9 : Option Nat} (h2 : h ar0 = cO 12 f1) (g4 : f1[6]? = some (vR (some at3))) (g6 : f1[0]? = some (vR (some at5))) (h8 : h at5 = cO 11 f7) (g10 : f7[3]? = some (vR t9)) (h12 : h at3 = cO 3 f11) (k : Rn d 0 0 mX3_fewestSorters 0 [some (vR (some at3)), some (vR t9), some (vI x1), none] [] h n (fun v h1 n1 => Rn (d + 1) bc bs mX12_sorter 38 [some (vR (some ar0)), some (vI x1), some (vI x2)] (v.toList ++ []) h1 n1 Q)) : Rn (d + 1) (bc) (bs) mX12_sorter 23 [some (vR (some ar0)), some (vI x1), some (vI x2)] [] h n Q := by
  refine Rn_aload_n dX12_sorter_23 rfl rfl rfl ?_
  refine Rn_getfield (ci := 12) (k := 6) dX12_sorter_24 rfl in_12 (Nat.le_of_ble_eq_true rfl) wd_466 rfl h2 g4 ?_
  refine Rn_aload_n dX12_sorter_27 rfl rfl rfl ?_
  refine Rn_getfield (ci := 12) (k := 0) dX12_sorter_28 rfl in_12 (Nat.le_of_ble_eq_true rfl) wd_460 rfl h2 g6 ?_
  refine Rn_getfield (ci := 11) (k := 3) dX12_sorter_31 rfl in_11 (Nat.le_of_ble_eq_true rfl) wd_299 rfl h8 g10 ?_
  refine Rn_iload_n dX12_sorter_34 rfl rfl ?_
  exact Rn_callV (ci := 3) (avs := [vR t9, vI x1]) (st := []) (bc1 := 0) (bs1 := 0) (bc2 := bc) (bs2 := bs) fx_X3_fewestSorters dX12_sorter_35 wd_1244 wd_1245 wd_1246 rfl h12 rfl (Nat.le_of_ble_eq_true rfl) (Nat.le_of_ble_eq_true rfl) (by omega) (by omega) (ls1 := [some (vR (some at3)), some (vR t9), some (vI x1), none]) rfl k
theorem BX12_sorter_38 {d bc bs : Nat} {h : aH} {n : Nat} {Q : aQ} {ar0 at3 : Nat} {x1 x2 s0 : Int} {f1 f5 : List aV} (h2 : h ar0 = cO 12 f1) (g4 : f1[6]? = some (vR (some at3))) (h6 : h at3 = cO 3 f5) (k : Rn d 0 0 mX3_sorterOf 0 [some (vR (some at3)), some (vI x2)] [] h n (fun v h1 n1 => Rn (d + 1) bc bs mX12_sorter 47 [some (vR (some ar0)), some (vI x1), some (vI x2)] (v.toList ++ []) h1 n1 Q)) : Rn (d + 1) (bc) (bs) mX12_sorter 38 [some (vR (some ar0)), some (vI x1), some (vI x2)] [vI s0] h n Q := by
  refine Rn_pop dX12_sorter_38 rfl ?_
  refine Rn_aload_n dX12_sorter_39 rfl rfl rfl ?_
  refine Rn_getfield (ci := 12) (k := 6) dX12_sorter_40 rfl in_12 (Nat.le_of_ble_eq_true rfl) wd_466 rfl h2 g4 ?_
  refine Rn_iload_n dX12_sorter_43 rfl rfl ?_
  exact Rn_callV (ci := 3) (avs := [vI x2]) (st := []) (bc1 := 0) (bs1 := 0) (bc2 := bc) (bs2 := bs) fx_X3_sorterOf dX12_sorter_44 wd_1259 wd_1260 wd_1261 rfl h6 rfl (Nat.le_of_ble_eq_true rfl) (Nat.le_of_ble_eq_true rfl) (by omega) (by omega) (ls1 := [some (vR (some at3)), some (vI x2)]) rfl k
theorem BX12_sorter_47 {d bc bs : Nat} {h : aH} {n : Nat} {Q : aQ} {r0 : Option Nat} {x1 x2 s0 : Int} (k : Q (some (vI s0)) h n) : Rn d (bc) (bs) mX12_sorter 47 [some (vR r0), some (vI x1), some (vI x2)] [vI s0] h n Q := by
  exact Rn_ireturn rfl dX12_sorter_47 k
theorem dX12_writes_0 : decode cX12_writes 0 = .ok (.aload_n 0, 1) := by decide +kernel
theorem dX12_writes_1 : decode cX12_writes 1 = .ok (.getfield 10, 3) := by decide +kernel
theorem dX12_writes_4 : decode cX12_writes 4 = .ok (.getfield 263, 3) := by decide +kernel
theorem dX12_writes_7 : decode cX12_writes 7 = .ok (.iload_n 1, 1) := by decide +kernel
theorem dX12_writes_8 : decode cX12_writes 8 = .ok (.iload_n 2, 1) := by decide +kernel
theorem dX12_writes_9 : decode cX12_writes 9 = .ok (.invokevirtual 355, 3) := by decide +kernel
theorem dX12_writes_12 : decode cX12_writes 12 = .ok (.ireturn, 1) := by decide +kernel
theorem BX12_writes_0 {d bc bs : Nat} {h : aH} {n : Nat} {Q : aQ} {ar0 at3 at7 : Nat} {x1 x2 : Int} {f1 f5 f9 : List aV} (h2 : h ar0 = cO 12 f1) (g4 : f1[0]? = some (vR (some at3))) (h6 : h at3 = cO 11 f5) (g8 : f5[3]? = some (vR (some at7))) (h10 : h at7 = cO 5 f9) (k : Rn d 0 0 mX5_addWrites 0 [some (vR (some at7)), some (vI x1), some (vI x2)] [] h n (fun v h1 n1 => Rn (d + 1) bc bs mX12_writes 12 [some (vR (some ar0)), some (vI x1), some (vI x2)] (v.toList ++ []) h1 n1 Q)) : Rn (d + 1) (bc) (bs) mX12_writes 0 [some (vR (some ar0)), some (vI x1), some (vI x2)] [] h n Q := by
  refine Rn_aload_n dX12_writes_0 rfl rfl rfl ?_
  refine Rn_getfield (ci := 12) (k := 0) dX12_writes_1 rfl in_12 (Nat.le_of_ble_eq_true rfl) wd_460 rfl h2 g4 ?_
  refine Rn_getfield (ci := 11) (k := 3) dX12_writes_4 rfl in_11 (Nat.le_of_ble_eq_true rfl) wd_299 rfl h6 g8 ?_
  refine Rn_iload_n dX12_writes_7 rfl rfl ?_
  refine Rn_iload_n dX12_writes_8 rfl rfl ?_
  exact Rn_callV (ci := 5) (avs := [vI x1, vI x2]) (st := []) (bc1 := 0) (bs1 := 0) (bc2 := bc) (bs2 := bs) fx_X5_addWrites dX12_writes_9 wd_1267 wd_1268 wd_1269 rfl h10 rfl (Nat.le_of_ble_eq_true rfl) (Nat.le_of_ble_eq_true rfl) (by omega) (by omega) (ls1 := [some (vR (some at7)), some (vI x1), some (vI x2)]) rfl k
theorem BX12_writes_12 {d bc bs : Nat} {h : aH} {n : Nat} {Q : aQ} {r0 : Option Nat} {x1 x2 s0 : Int} (b1 : s0 = 0 ∨ s0 = 1) (k : Q (some (vI s0)) h n) : Rn d (bc) (bs) mX12_writes 12 [some (vR r0), some (vI x1), some (vI x2)] [vI s0] h n Q := by
  exact Rn_zreturn rfl dX12_writes_12 b1 k
theorem dX12_orders_0 : decode cX12_orders 0 = .ok (.iload_n 1, 1) := by decide +kernel
theorem dX12_orders_1 : decode cX12_orders 1 = .ok (.iconst 0, 1) := by decide +kernel
theorem dX12_orders_2 : decode cX12_orders 2 = .ok (.bipush 8, 2) := by decide +kernel
theorem dX12_orders_4 : decode cX12_orders 4 = .ok (.invokestatic 93, 3) := by decide +kernel
theorem dX12_orders_7 : decode cX12_orders 7 = .ok (.ifCond .ne 7, 3) := by decide +kernel
theorem dX12_orders_10 : decode cX12_orders 10 = .ok (.ldc2_w 312, 3) := by decide +kernel
theorem dX12_orders_13 : decode cX12_orders 13 = .ok (.lreturn, 1) := by decide +kernel
theorem dX12_orders_14 : decode cX12_orders 14 = .ok (.aload_n 0, 1) := by decide +kernel
theorem dX12_orders_15 : decode cX12_orders 15 = .ok (.getfield 50, 3) := by decide +kernel
theorem dX12_orders_18 : decode cX12_orders 18 = .ok (.aload_n 0, 1) := by decide +kernel
theorem dX12_orders_19 : decode cX12_orders 19 = .ok (.getfield 10, 3) := by decide +kernel
theorem dX12_orders_22 : decode cX12_orders 22 = .ok (.getfield 263, 3) := by decide +kernel
theorem dX12_orders_25 : decode cX12_orders 25 = .ok (.iload_n 1, 1) := by decide +kernel
theorem dX12_orders_26 : decode cX12_orders 26 = .ok (.iconst (-1), 1) := by decide +kernel
theorem dX12_orders_27 : decode cX12_orders 27 = .ok (.iconst (-1), 1) := by decide +kernel
theorem dX12_orders_28 : decode cX12_orders 28 = .ok (.invokevirtual 358, 3) := by decide +kernel
theorem dX12_orders_31 : decode cX12_orders 31 = .ok (.lreturn, 1) := by decide +kernel
theorem BX12_orders_0 {d bc bs : Nat} {h : aH} {n : Nat} {Q : aQ} {r0 : Option Nat} {x1 : Int} (k : Rn d 0 0 mX12_within 0 [some (vI x1), some (vI 0), some (vI 8)] [] h n (fun v h1 n1 => Rn (d + 1) bc bs mX12_orders 7 [some (vR r0), some (vI x1)] (v.toList ++ []) h1 n1 Q)) : Rn (d + 1) (bc) (bs) mX12_orders 0 [some (vR r0), some (vI x1)] [] h n Q := by
  refine Rn_iload_n dX12_orders_0 rfl rfl ?_
  refine Rn_iconst dX12_orders_1 rfl ?_
  refine Rn_bipush dX12_orders_2 rfl ?_
  exact Rn_callS (avs := [vI x1, vI 0, vI 8]) (st := []) (bc1 := 0) (bs1 := 0) (bc2 := bc) (bs2 := bs) fx_X12_within dX12_orders_4 (Or.inl wd_502) wd_503 rfl (Nat.le_of_ble_eq_true rfl) (Nat.le_of_ble_eq_true rfl) (by omega) (by omega) (ls1 := [some (vI x1), some (vI 0), some (vI 8)]) rfl k
theorem BX12_orders_7 {d bc bs : Nat} {h : aH} {n : Nat} {Q : aQ} {r0 : Option Nat} {x1 s0 : Int} (kt : s0 ≠ 0 → Rn d bc bs mX12_orders 14 [some (vR r0), some (vI x1)] [] h n Q) (kf : s0 = 0 → Rn d bc bs mX12_orders 10 [some (vR r0), some (vI x1)] [] h n Q) : Rn d (bc) (bs) mX12_orders 7 [some (vR r0), some (vI x1)] [vI s0] h n Q := by
  refine Rn_ifne (tgt := 14) dX12_orders_7 rfl ?_ ?_
  · exact kt
  · exact kf
theorem BX12_orders_10 {d bc bs : Nat} {h : aH} {n : Nat} {Q : aQ} {r0 : Option Nat} {x1 : Int} (k : Q (some (vL (-1))) h n) : Rn d (bc) (bs) mX12_orders 10 [some (vR r0), some (vI x1)] [] h n Q := by
  refine Rn_ldc2 (x := (-1)) dX12_orders_10 wd_1143 rfl ?_
  exact Rn_lreturn rfl dX12_orders_13 k
theorem BX12_orders_14 {d bc bs : Nat} {h : aH} {n : Nat} {Q : aQ} {ar0 at3 at5 : Nat} {x1 : Int} {f1 f7 f11 : List aV} {t9 : Option Nat} (h2 : h ar0 = cO 12 f1) (g4 : f1[6]? = some (vR (some at3))) (g6 : f1[0]? = some (vR (some at5))) (h8 : h at5 = cO 11 f7) (g10 : f7[3]? = some (vR t9)) (h12 : h at3 = cO 3 f11) (k : Rn d 0 0 mX3_countOrders 0 [some (vR (some at3)), some (vR t9), some (vI x1), some (vI (-1)), some (vI (-1)), none, none, none, none, none] [] h n (fun v h1 n1 => Rn (d + 1) bc bs mX12_orders 31 [some (vR (some ar0)), some (vI x1)] (v.toList ++ []) h1 n1 Q)) : Rn (d + 1) (bc) (bs) mX12_orders 14 [some (vR (some ar0)), some (vI x1)] [] h n Q := by
  refine Rn_aload_n dX12_orders_14 rfl rfl rfl ?_
  refine Rn_getfield (ci := 12) (k := 6) dX12_orders_15 rfl in_12 (Nat.le_of_ble_eq_true rfl) wd_466 rfl h2 g4 ?_
  refine Rn_aload_n dX12_orders_18 rfl rfl rfl ?_
  refine Rn_getfield (ci := 12) (k := 0) dX12_orders_19 rfl in_12 (Nat.le_of_ble_eq_true rfl) wd_460 rfl h2 g6 ?_
  refine Rn_getfield (ci := 11) (k := 3) dX12_orders_22 rfl in_11 (Nat.le_of_ble_eq_true rfl) wd_299 rfl h8 g10 ?_
  refine Rn_iload_n dX12_orders_25 rfl rfl ?_
  refine Rn_iconst dX12_orders_26 rfl ?_
  refine Rn_iconst dX12_orders_27 rfl ?_
  exact Rn_callV (ci := 3) (avs := [vR t9, vI x1, vI (-1), vI (-1)]) (st := []) (bc1 := 0) (bs1 := 0) (bc2 := bc) (bs2 := bs) fx_X3_countOrders dX12_orders_28 wd_1279 wd_1280 wd_1281 rfl h12 rfl (Nat.le_of_ble_eq_true rfl) (Nat.le_of_ble_eq_true rfl) (by omega) (by omega) (ls1 := [some (vR (some at3)), some (vR t9), some (vI x1), some (vI (-1)), some (vI (-1)), none, none, none, none, none]) rfl k
theorem BX12_orders_31 {d bc bs : Nat} {h : aH} {n : Nat} {Q : aQ} {r0 : Option Nat} {x1 s0 : Int} (k : Q (some (vL s0)) h n) : Rn d (bc) (bs) mX12_orders 31 [some (vR r0), some (vI x1)] [vL s0] h n Q := by
  exact Rn_lreturn rfl dX12_orders_31 k
theorem dX12_sure_0 : decode cX12_sure 0 = .ok (.iload_n 1, 1) := by decide +kernel
theorem dX12_sure_1 : decode cX12_sure 1 = .ok (.iconst 0, 1) := by decide +kernel
theorem dX12_sure_2 : decode cX12_sure 2 = .ok (.bipush 8, 2) := by decide +kernel
theorem dX12_sure_4 : decode cX12_sure 4 = .ok (.invokestatic 93, 3) := by decide +kernel
theorem dX12_sure_7 : decode cX12_sure 7 = .ok (.ifCond .eq 34, 3) := by decide +kernel
theorem dX12_sure_10 : decode cX12_sure 10 = .ok (.iload_n 2, 1) := by decide +kernel
theorem dX12_sure_11 : decode cX12_sure 11 = .ok (.iconst 0, 1) := by decide +kernel
theorem dX12_sure_12 : decode cX12_sure 12 = .ok (.iload_n 1, 1) := by decide +kernel
theorem dX12_sure_13 : decode cX12_sure 13 = .ok (.iconst 1, 1) := by decide +kernel
theorem dX12_sure_14 : decode cX12_sure 14 = .ok (.isub, 1) := by decide +kernel
theorem dX12_sure_15 : decode cX12_sure 15 = .ok (.invokestatic 93, 3) := by decide +kernel
theorem dX12_sure_18 : decode cX12_sure 18 = .ok (.ifCond .eq 23, 3) := by decide +kernel
theorem dX12_sure_21 : decode cX12_sure 21 = .ok (.iload_n 3, 1) := by decide +kernel
theorem dX12_sure_22 : decode cX12_sure 22 = .ok (.iconst 0, 1) := by decide +kernel
theorem dX12_sure_23 : decode cX12_sure 23 = .ok (.iload_n 1, 1) := by decide +kernel
theorem dX12_sure_24 : decode cX12_sure 24 = .ok (.iconst 1, 1) := by decide +kernel
theorem dX12_sure_25 : decode cX12_sure 25 = .ok (.isub, 1) := by decide +kernel
theorem dX12_sure_26 : decode cX12_sure 26 = .ok (.invokestatic 93, 3) := by decide +kernel
theorem dX12_sure_29 : decode cX12_sure 29 = .ok (.ifCond .eq 12, 3) := by decide +kernel
theorem dX12_sure_32 : decode cX12_sure 32 = .ok (.iload_n 2, 1) := by decide +kernel
theorem dX12_sure_33 : decode cX12_sure 33 = .ok (.iload_n 3, 1) := by decide +kernel
theorem dX12_sure_34 : decode cX12_sure 34 = .ok (.if_icmp .eq 7, 3) := by decide +kernel
theorem dX12_sure_37 : decode cX12_sure 37 = .ok (.iconst 1, 1) := by decide +kernel
theorem dX12_sure_38 : decode cX12_sure 38 = .ok (.goto 4, 3) := by decide +kernel
theorem dX12_sure_41 : decode cX12_sure 41 = .ok (.iconst 0, 1) := by decide +kernel
theorem dX12_sure_42 : decode cX12_sure 42 = .ok (.istore 4, 2) := by decide +kernel
theorem dX12_sure_44 : decode cX12_sure 44 = .ok (.iload 4, 2) := by decide +kernel
theorem dX12_sure_46 : decode cX12_sure 46 = .ok (.ifCond .ne 6, 3) := by decide +kernel
theorem dX12_sure_49 : decode cX12_sure 49 = .ok (.bipush (-2), 2) := by decide +kernel
theorem dX12_sure_51 : decode cX12_sure 51 = .ok (.ireturn, 1) := by decide +kernel
theorem dX12_sure_52 : decode cX12_sure 52 = .ok (.aload_n 0, 1) := by decide +kernel
theorem dX12_sure_53 : decode cX12_sure 53 = .ok (.getfield 50, 3) := by decide +kernel
theorem dX12_sure_56 : decode cX12_sure 56 = .ok (.aload_n 0, 1) := by decide +kernel
theorem dX12_sure_57 : decode cX12_sure 57 = .ok (.getfield 10, 3) := by decide +kernel
theorem dX12_sure_60 : decode cX12_sure 60 = .ok (.getfield 263, 3) := by decide +kernel
theorem dX12_sure_63 : decode cX12_sure 63 = .ok (.iload_n 1, 1) := by decide +kernel
theorem dX12_sure_64 : decode cX12_sure 64 = .ok (.iconst (-1), 1) := by decide +kernel
theorem dX12_sure_65 : decode cX12_sure 65 = .ok (.iconst (-1), 1) := by decide +kernel
theorem dX12_sure_66 : decode cX12_sure 66 = .ok (.invokevirtual 358, 3) := by decide +kernel
theorem dX12_sure_69 : decode cX12_sure 69 = .ok (.lstore 5, 2) := by decide +kernel
theorem dX12_sure_71 : decode cX12_sure 71 = .ok (.lload 5, 2) := by decide +kernel
theorem dX12_sure_73 : decode cX12_sure 73 = .ok (.lconst 0, 1) := by decide +kernel
theorem dX12_sure_74 : decode cX12_sure 74 = .ok (.lcmp, 1) := by decide +kernel
theorem dX12_sure_75 : decode cX12_sure 75 = .ok (.ifCond .ne 6, 3) := by decide +kernel
theorem dX12_sure_78 : decode cX12_sure 78 = .ok (.bipush (-2), 2) := by decide +kernel
theorem dX12_sure_80 : decode cX12_sure 80 = .ok (.ireturn, 1) := by decide +kernel
theorem dX12_sure_81 : decode cX12_sure 81 = .ok (.aload_n 0, 1) := by decide +kernel
theorem dX12_sure_82 : decode cX12_sure 82 = .ok (.getfield 50, 3) := by decide +kernel
theorem dX12_sure_85 : decode cX12_sure 85 = .ok (.aload_n 0, 1) := by decide +kernel
theorem dX12_sure_86 : decode cX12_sure 86 = .ok (.getfield 10, 3) := by decide +kernel
theorem dX12_sure_89 : decode cX12_sure 89 = .ok (.getfield 263, 3) := by decide +kernel
theorem dX12_sure_92 : decode cX12_sure 92 = .ok (.iload_n 1, 1) := by decide +kernel
theorem dX12_sure_93 : decode cX12_sure 93 = .ok (.iload_n 2, 1) := by decide +kernel
theorem dX12_sure_94 : decode cX12_sure 94 = .ok (.iload_n 3, 1) := by decide +kernel
theorem dX12_sure_95 : decode cX12_sure 95 = .ok (.invokevirtual 358, 3) := by decide +kernel
theorem dX12_sure_98 : decode cX12_sure 98 = .ok (.lstore 7, 2) := by decide +kernel
theorem dX12_sure_100 : decode cX12_sure 100 = .ok (.lload 7, 2) := by decide +kernel
theorem dX12_sure_102 : decode cX12_sure 102 = .ok (.lload 5, 2) := by decide +kernel
theorem dX12_sure_104 : decode cX12_sure 104 = .ok (.lcmp, 1) := by decide +kernel
theorem dX12_sure_105 : decode cX12_sure 105 = .ok (.ifCond .ne 5, 3) := by decide +kernel
theorem dX12_sure_108 : decode cX12_sure 108 = .ok (.iconst 1, 1) := by decide +kernel
theorem dX12_sure_109 : decode cX12_sure 109 = .ok (.ireturn, 1) := by decide +kernel
theorem dX12_sure_110 : decode cX12_sure 110 = .ok (.lload 7, 2) := by decide +kernel
theorem dX12_sure_112 : decode cX12_sure 112 = .ok (.lconst 0, 1) := by decide +kernel
theorem dX12_sure_113 : decode cX12_sure 113 = .ok (.lcmp, 1) := by decide +kernel
theorem dX12_sure_114 : decode cX12_sure 114 = .ok (.ifCond .ne 7, 3) := by decide +kernel
theorem dX12_sure_117 : decode cX12_sure 117 = .ok (.iconst (-1), 1) := by decide +kernel
theorem dX12_sure_118 : decode cX12_sure 118 = .ok (.goto 4, 3) := by decide +kernel
theorem dX12_sure_121 : decode cX12_sure 121 = .ok (.iconst 0, 1) := by decide +kernel
theorem dX12_sure_122 : decode cX12_sure 122 = .ok (.ireturn, 1) := by decide +kernel
theorem BX12_sure_0 {d bc bs : Nat} {h : aH} {n : Nat} {Q : aQ} {r0 : Option Nat} {x1 x2 x3 : Int} {l4 l5 l6 l7 l8 : Option aV} (k : Rn d 0 0 mX12_within 0 [some (vI x1), some (vI 0), some (vI 8)] [] h n (fun v h1 n1 => Rn (d + 1) bc bs mX12_sure 7 [some (vR r0), some (vI x1), some (vI x2), some (vI x3), l4, l5, l6, l7, l8] (v.toList ++ []) h1 n1 Q)) : Rn (d + 1) (bc) (bs) mX12_sure 0 [some (vR r0), some (vI x1), some (vI x2), some (vI x3), l4, l5, l6, l7, l8] [] h n Q := by
  refine Rn_iload_n dX12_sure_0 rfl rfl ?_
  refine Rn_iconst dX12_sure_1 rfl ?_
  refine Rn_bipush dX12_sure_2 rfl ?_
  exact Rn_callS (avs := [vI x1, vI 0, vI 8]) (st := []) (bc1 := 0) (bs1 := 0) (bc2 := bc) (bs2 := bs) fx_X12_within dX12_sure_4 (Or.inl wd_502) wd_503 rfl (Nat.le_of_ble_eq_true rfl) (Nat.le_of_ble_eq_true rfl) (by omega) (by omega) (ls1 := [some (vI x1), some (vI 0), some (vI 8)]) rfl k
theorem BX12_sure_7 {d bc bs : Nat} {h : aH} {n : Nat} {Q : aQ} {r0 : Option Nat} {x1 x2 x3 s0 : Int} {l4 l5 l6 l7 l8 : Option aV} (kt : s0 = 0 → Rn d bc bs mX12_sure 41 [some (vR r0), some (vI x1), some (vI x2), some (vI x3), l4, l5, l6, l7, l8] [] h n Q) (kf : s0 ≠ 0 → Rn d bc bs mX12_sure 10 [some (vR r0), some (vI x1), some (vI x2), some (vI x3), l4, l5, l6, l7, l8] [] h n Q) : Rn d (bc) (bs) mX12_sure 7 [some (vR r0), some (vI x1), some (vI x2), some (vI x3), l4, l5, l6, l7, l8] [vI s0] h n Q := by
  refine Rn_ifeq (tgt := 41) dX12_sure_7 rfl ?_ ?_
  · exact kt
  · exact kf
theorem BX12_sure_10 {d bc bs : Nat} {h : aH} {n : Nat} {Q : aQ} {r0 : Option Nat} {x1 x2 x3 : Int} {l4 l5 l6 l7 l8 : Option aV} (b1 : -2147483648 ≤ x1 - 1 ∧ x1 - 1 < 2147483648) (k : Rn d 0 0 mX12_within 0 [some (vI x2), some (vI 0), some (vI (x1 - 1))] [] h n (fun v h1 n1 => Rn (d + 1) bc bs mX12_sure 18 [some (vR r0), some (vI x1), some (vI x2), some (vI x3), l4, l5, l6, l7, l8] (v.toList ++ []) h1 n1 Q)) : Rn (d + 1) (bc) (bs) mX12_sure 10 [some (vR r0), some (vI x1), some (vI x2), some (vI x3), l4, l5, l6, l7, l8] [] h n Q := by
  refine Rn_iload_n dX12_sure_10 rfl rfl ?_
  refine Rn_iconst dX12_sure_11 rfl ?_
  refine Rn_iload_n dX12_sure_12 rfl rfl ?_
  refine Rn_iconst dX12_sure_13 rfl ?_
  refine Rn_isub dX12_sure_14 ?_
  rw [w32_id b1.1 b1.2]
  exact Rn_callS (avs := [vI x2, vI 0, vI (x1 - 1)]) (st := []) (bc1 := 0) (bs1 := 0) (bc2 := bc) (bs2 := bs) fx_X12_within dX12_sure_15 (Or.inl wd_502) wd_503 rfl (Nat.le_of_ble_eq_true rfl) (Nat.le_of_ble_eq_true rfl) (by omega) (by omega) (ls1 := [some (vI x2), some (vI 0), some (vI (x1 - 1))]) rfl k
theorem BX12_sure_18 {d bc bs : Nat} {h : aH} {n : Nat} {Q : aQ} {r0 : Option Nat} {x1 x2 x3 s0 : Int} {l4 l5 l6 l7 l8 : Option aV} (kt : s0 = 0 → Rn d bc bs mX12_sure 41 [some (vR r0), some (vI x1), some (vI x2), some (vI x3), l4, l5, l6, l7, l8] [] h n Q) (kf : s0 ≠ 0 → Rn d bc bs mX12_sure 21 [some (vR r0), some (vI x1), some (vI x2), some (vI x3), l4, l5, l6, l7, l8] [] h n Q) : Rn d (bc) (bs) mX12_sure 18 [some (vR r0), some (vI x1), some (vI x2), some (vI x3), l4, l5, l6, l7, l8] [vI s0] h n Q := by
  refine Rn_ifeq (tgt := 41) dX12_sure_18 rfl ?_ ?_
  · exact kt
  · exact kf
theorem BX12_sure_21 {d bc bs : Nat} {h : aH} {n : Nat} {Q : aQ} {r0 : Option Nat} {x1 x2 x3 : Int} {l4 l5 l6 l7 l8 : Option aV} (b1 : -2147483648 ≤ x1 - 1 ∧ x1 - 1 < 2147483648) (k : Rn d 0 0 mX12_within 0 [some (vI x3), some (vI 0), some (vI (x1 - 1))] [] h n (fun v h1 n1 => Rn (d + 1) bc bs mX12_sure 29 [some (vR r0), some (vI x1), some (vI x2), some (vI x3), l4, l5, l6, l7, l8] (v.toList ++ []) h1 n1 Q)) : Rn (d + 1) (bc) (bs) mX12_sure 21 [some (vR r0), some (vI x1), some (vI x2), some (vI x3), l4, l5, l6, l7, l8] [] h n Q := by
  refine Rn_iload_n dX12_sure_21 rfl rfl ?_
  refine Rn_iconst dX12_sure_22 rfl ?_
  refine Rn_iload_n dX12_sure_23 rfl rfl ?_
  refine Rn_iconst dX12_sure_24 rfl ?_
  refine Rn_isub dX12_sure_25 ?_
  rw [w32_id b1.1 b1.2]
  exact Rn_callS (avs := [vI x3, vI 0, vI (x1 - 1)]) (st := []) (bc1 := 0) (bs1 := 0) (bc2 := bc) (bs2 := bs) fx_X12_within dX12_sure_26 (Or.inl wd_502) wd_503 rfl (Nat.le_of_ble_eq_true rfl) (Nat.le_of_ble_eq_true rfl) (by omega) (by omega) (ls1 := [some (vI x3), some (vI 0), some (vI (x1 - 1))]) rfl k
theorem BX12_sure_29 {d bc bs : Nat} {h : aH} {n : Nat} {Q : aQ} {r0 : Option Nat} {x1 x2 x3 s0 : Int} {l4 l5 l6 l7 l8 : Option aV} (kt : s0 = 0 → Rn d bc bs mX12_sure 41 [some (vR r0), some (vI x1), some (vI x2), some (vI x3), l4, l5, l6, l7, l8] [] h n Q) (kf : s0 ≠ 0 → Rn d bc bs mX12_sure 32 [some (vR r0), some (vI x1), some (vI x2), some (vI x3), l4, l5, l6, l7, l8] [] h n Q) : Rn d (bc) (bs) mX12_sure 29 [some (vR r0), some (vI x1), some (vI x2), some (vI x3), l4, l5, l6, l7, l8] [vI s0] h n Q := by
  refine Rn_ifeq (tgt := 41) dX12_sure_29 rfl ?_ ?_
  · exact kt
  · exact kf
theorem BX12_sure_32 {d bc bs : Nat} {h : aH} {n : Nat} {Q : aQ} {r0 : Option Nat} {x1 x2 x3 : Int} {l4 l5 l6 l7 l8 : Option aV} (kt : x2 = x3 → Rn d bc bs mX12_sure 41 [some (vR r0), some (vI x1), some (vI x2), some (vI x3), l4, l5, l6, l7, l8] [] h n Q) (kf : x2 ≠ x3 → Rn d bc bs mX12_sure 37 [some (vR r0), some (vI x1), some (vI x2), some (vI x3), l4, l5, l6, l7, l8] [] h n Q) : Rn d (bc) (bs) mX12_sure 32 [some (vR r0), some (vI x1), some (vI x2), some (vI x3), l4, l5, l6, l7, l8] [] h n Q := by
  refine Rn_iload_n dX12_sure_32 rfl rfl ?_
  refine Rn_iload_n dX12_sure_33 rfl rfl ?_
  refine Rn_icmpeq (tgt := 41) dX12_sure_34 rfl ?_ ?_
  · exact kt
  · exact kf
theorem BX12_sure_37 {d bc bs : Nat} {h : aH} {n : Nat} {Q : aQ} {r0 : Option Nat} {x1 x2 x3 : Int} {l4 l5 l6 l7 l8 : Option aV} (kt : (1 : Int) ≠ 0 → Rn d bc bs mX12_sure 52 [some (vR r0), some (vI x1), some (vI x2), some (vI x3), some (vI 1), l5, l6, l7, l8] [] h n Q) (kf : (1 : Int) = 0 → Rn d bc bs mX12_sure 49 [some (vR r0), some (vI x1), some (vI x2), some (vI x3), some (vI 1), l5, l6, l7, l8] [] h n Q) : Rn d (bc) (bs) mX12_sure 37 [some (vR r0), some (vI x1), some (vI x2), some (vI x3), l4, l5, l6, l7, l8] [] h n Q := by
  refine Rn_iconst dX12_sure_37 rfl ?_
  refine Rn_goto (tgt := 42) dX12_sure_38 rfl ?_
  refine Rn_istore dX12_sure_42 (Nat.le_of_ble_eq_true rfl) rfl rfl ?_
  refine Rn_iload dX12_sure_44 rfl ?_
  refine Rn_ifne (tgt := 52) dX12_sure_46 rfl ?_ ?_
  · exact kt
  · exact kf
theorem BX12_sure_41 {d bc bs : Nat} {h : aH} {n : Nat} {Q : aQ} {r0 : Option Nat} {x1 x2 x3 : Int} {l4 l5 l6 l7 l8 : Option aV} (kt : (0 : Int) ≠ 0 → Rn d bc bs mX12_sure 52 [some (vR r0), some (vI x1), some (vI x2), some (vI x3), some (vI 0), l5, l6, l7, l8] [] h n Q) (kf : (0 : Int) = 0 → Rn d bc bs mX12_sure 49 [some (vR r0), some (vI x1), some (vI x2), some (vI x3), some (vI 0), l5, l6, l7, l8] [] h n Q) : Rn d (bc) (bs) mX12_sure 41 [some (vR r0), some (vI x1), some (vI x2), some (vI x3), l4, l5, l6, l7, l8] [] h n Q := by
  refine Rn_iconst dX12_sure_41 rfl ?_
  refine Rn_istore dX12_sure_42 (Nat.le_of_ble_eq_true rfl) rfl rfl ?_
  refine Rn_iload dX12_sure_44 rfl ?_
  refine Rn_ifne (tgt := 52) dX12_sure_46 rfl ?_ ?_
  · exact kt
  · exact kf
theorem BX12_sure_49 {d bc bs : Nat} {h : aH} {n : Nat} {Q : aQ} {r0 : Option Nat} {x1 x2 x3 x4 : Int} {l5 l6 l7 l8 : Option aV} (k : Q (some (vI (-2))) h n) : Rn d (bc) (bs) mX12_sure 49 [some (vR r0), some (vI x1), some (vI x2), some (vI x3), some (vI x4), l5, l6, l7, l8] [] h n Q := by
  refine Rn_bipush dX12_sure_49 rfl ?_
  exact Rn_ireturn rfl dX12_sure_51 k
theorem BX12_sure_52 {d bc bs : Nat} {h : aH} {n : Nat} {Q : aQ} {ar0 at3 at5 : Nat} {x1 x2 x3 x4 : Int} {l5 l6 l7 l8 : Option aV} {f1 f7 f11 : List aV} {t9 : Option Nat} (h2 : h ar0 = cO 12 f1) (g4 : f1[6]? = some (vR (some at3))) (g6 : f1[0]? = some (vR (some at5))) (h8 : h at5 = cO 11 f7) (g10 : f7[3]? = some (vR t9)) (h12 : h at3 = cO 3 f11) (k : Rn d 0 0 mX3_countOrders 0 [some (vR (some at3)), some (vR t9), some (vI x1), some (vI (-1)), some (vI (-1)), none, none, none, none, none] [] h n (fun v h1 n1 => Rn (d + 1) bc bs mX12_sure 69 [some (vR (some ar0)), some (vI x1), some (vI x2), some (vI x3), some (vI x4), l5, l6, l7, l8] (v.toList ++ []) h1 n1 Q)) : Rn (d + 1) (bc) (bs) mX12_sure 52 [some (vR (some ar0)), some (vI x1), some (vI x2), some (vI x3), some (vI x4), l5, l6, l7, l8] [] h n Q := by
  refine Rn_aload_n dX12_sure_52 rfl rfl rfl ?_
  refine Rn_getfield (ci := 12) (k := 6) dX12_sure_53 rfl in_12 (Nat.le_of_ble_eq_true rfl) wd_466 rfl h2 g4 ?_
  refine Rn_aload_n dX12_sure_56 rfl rfl rfl ?_
  refine Rn_getfield (ci := 12) (k := 0) dX12_sure_57 rfl in_12 (Nat.le_of_ble_eq_true rfl) wd_460 rfl h2 g6 ?_
  refine Rn_getfield (ci := 11) (k := 3) dX12_sure_60 rfl in_11 (Nat.le_of_ble_eq_true rfl) wd_299 rfl h8 g10 ?_
  refine Rn_iload_n dX12_sure_63 rfl rfl ?_
  refine Rn_iconst dX12_sure_64 rfl ?_
  refine Rn_iconst dX12_sure_65 rfl ?_
  exact Rn_callV (ci := 3) (avs := [vR t9, vI x1, vI (-1), vI (-1)]) (st := []) (bc1 := 0) (bs1 := 0) (bc2 := bc) (bs2 := bs) fx_X3_countOrders dX12_sure_66 wd_1279 wd_1280 wd_1281 rfl h12 rfl (Nat.le_of_ble_eq_true rfl) (Nat.le_of_ble_eq_true rfl) (by omega) (by omega) (ls1 := [some (vR (some at3)), some (vR t9), some (vI x1), some (vI (-1)), some (vI (-1)), none, none, none, none, none]) rfl k
theorem BX12_sure_69 {d bc bs : Nat} {h : aH} {n : Nat} {Q : aQ} {r0 : Option Nat} {x1 x2 x3 x4 s0 : Int} {l5 l6 l7 l8 : Option aV} (kt : s0 ≠ 0 → Rn d bc bs mX12_sure 81 [some (vR r0), some (vI x1), some (vI x2), some (vI x3), some (vI x4), some (vL s0), none, l7, l8] [] h n Q) (kf : s0 = 0 → Rn d bc bs mX12_sure 78 [some (vR r0), some (vI x1), some (vI x2), some (vI x3), some (vI x4), some (vL s0), none, l7, l8] [] h n Q) : Rn d (bc) (bs) mX12_sure 69 [some (vR r0), some (vI x1), some (vI x2), some (vI x3), some (vI x4), l5, l6, l7, l8] [vL s0] h n Q := by
  refine Rn_lstore dX12_sure_69 (Nat.le_of_ble_eq_true rfl) rfl rfl ?_
  refine Rn_lload dX12_sure_71 rfl ?_
  refine Rn_lconst (x := 0) dX12_sure_73 rfl ?_
  refine Rn_lcmp dX12_sure_74 ?_
  refine Rn_ifne (tgt := 81) dX12_sure_75 rfl ?_ ?_
  · exact fun q => kt (lc_ne q)
  · exact fun q => kf (lc_eq q)
theorem BX12_sure_78 {d bc bs : Nat} {h : aH} {n : Nat} {Q : aQ} {r0 : Option Nat} {x1 x2 x3 x4 x5 : Int} {l7 l8 : Option aV} (k : Q (some (vI (-2))) h n) : Rn d (bc) (bs) mX12_sure 78 [some (vR r0), some (vI x1), some (vI x2), some (vI x3), some (vI x4), some (vL x5), none, l7, l8] [] h n Q := by
  refine Rn_bipush dX12_sure_78 rfl ?_
  exact Rn_ireturn rfl dX12_sure_80 k
theorem BX12_sure_81 {d bc bs : Nat} {h : aH} {n : Nat} {Q : aQ} {ar0 at3 at5 : Nat} {x1 x2 x3 x4 x5 : Int} {l7 l8 : Option aV} {f1 f7 f11 : List aV} {t9 : Option Nat} (h2 : h ar0 = cO 12 f1) (g4 : f1[6]? = some (vR (some at3))) (g6 : f1[0]? = some (vR (some at5))) (h8 : h at5 = cO 11 f7) (g10 : f7[3]? = some (vR t9)) (h12 : h at3 = cO 3 f11) (k : Rn d 0 0 mX3_countOrders 0 [some (vR (some at3)), some (vR t9), some (vI x1), some (vI x2), some (vI x3), none, none, none, none, none] [] h n (fun v h1 n1 => Rn (d + 1) bc bs mX12_sure 98 [some (vR (some ar0)), some (vI x1), some (vI x2), some (vI x3), some (vI x4), some (vL x5), none, l7, l8] (v.toList ++ []) h1 n1 Q)) : Rn (d + 1) (bc) (bs) mX12_sure 81 [some (vR (some ar0)), some (vI x1), some (vI x2), some (vI x3), some (vI x4), some (vL x5), none, l7, l8] [] h n Q := by
  refine Rn_aload_n dX12_sure_81 rfl rfl rfl ?_
  refine Rn_getfield (ci := 12) (k := 6) dX12_sure_82 rfl in_12 (Nat.le_of_ble_eq_true rfl) wd_466 rfl h2 g4 ?_
  refine Rn_aload_n dX12_sure_85 rfl rfl rfl ?_
  refine Rn_getfield (ci := 12) (k := 0) dX12_sure_86 rfl in_12 (Nat.le_of_ble_eq_true rfl) wd_460 rfl h2 g6 ?_
  refine Rn_getfield (ci := 11) (k := 3) dX12_sure_89 rfl in_11 (Nat.le_of_ble_eq_true rfl) wd_299 rfl h8 g10 ?_
  refine Rn_iload_n dX12_sure_92 rfl rfl ?_
  refine Rn_iload_n dX12_sure_93 rfl rfl ?_
  refine Rn_iload_n dX12_sure_94 rfl rfl ?_
  exact Rn_callV (ci := 3) (avs := [vR t9, vI x1, vI x2, vI x3]) (st := []) (bc1 := 0) (bs1 := 0) (bc2 := bc) (bs2 := bs) fx_X3_countOrders dX12_sure_95 wd_1279 wd_1280 wd_1281 rfl h12 rfl (Nat.le_of_ble_eq_true rfl) (Nat.le_of_ble_eq_true rfl) (by omega) (by omega) (ls1 := [some (vR (some at3)), some (vR t9), some (vI x1), some (vI x2), some (vI x3), none, none, none, none, none]) rfl k
theorem BX12_sure_98 {d bc bs : Nat} {h : aH} {n : Nat} {Q : aQ} {r0 : Option Nat} {x1 x2 x3 x4 x5 s0 : Int} {l7 l8 : Option aV} (kt : s0 ≠ x5 → Rn d bc bs mX12_sure 110 [some (vR r0), some (vI x1), some (vI x2), some (vI x3), some (vI x4), some (vL x5), none, some (vL s0), none] [] h n Q) (kf : s0 = x5 → Rn d bc bs mX12_sure 108 [some (vR r0), some (vI x1), some (vI x2), some (vI x3), some (vI x4), some (vL x5), none, some (vL s0), none] [] h n Q) : Rn d (bc) (bs) mX12_sure 98 [some (vR r0), some (vI x1), some (vI x2), some (vI x3), some (vI x4), some (vL x5), none, l7, l8] [vL s0] h n Q := by
  refine Rn_lstore dX12_sure_98 (Nat.le_of_ble_eq_true rfl) rfl rfl ?_
  refine Rn_lload dX12_sure_100 rfl ?_
  refine Rn_lload dX12_sure_102 rfl ?_
  refine Rn_lcmp dX12_sure_104 ?_
  refine Rn_ifne (tgt := 110) dX12_sure_105 rfl ?_ ?_
  · exact fun q => kt (lc_ne q)
  · exact fun q => kf (lc_eq q)
theorem BX12_sure_108 {d bc bs : Nat} {h : aH} {n : Nat} {Q : aQ} {r0 : Option Nat} {x1 x2 x3 x4 x5 x7 : Int} (k : Q (some (vI 1)) h n) : Rn d (bc) (bs) mX12_sure 108 [some (vR r0), some (vI x1), some (vI x2), some (vI x3), some (vI x4), some (vL x5), none, some (vL x7), none] [] h n Q := by
  refine Rn_iconst dX12_sure_108 rfl ?_
  exact Rn_ireturn rfl dX12_sure_109 k
theorem BX12_sure_110 {d bc bs : Nat} {h : aH} {n : Nat} {Q : aQ} {r0 : Option Nat} {x1 x2 x3 x4 x5 x7 : Int} (kt : x7 ≠ 0 → Rn d bc bs mX12_sure 121 [some (vR r0), some (vI x1), some (vI x2), some (vI x3), some (vI x4), some (vL x5), none, some (vL x7), none] [] h n Q) (kf : x7 = 0 → Rn d bc bs mX12_sure 117 [some (vR r0), some (vI x1), some (vI x2), some (vI x3), some (vI x4), some (vL x5), none, some (vL x7), none] [] h n Q) : Rn d (bc) (bs) mX12_sure 110 [some (vR r0), some (vI x1), some (vI x2), some (vI x3), some (vI x4), some (vL x5), none, some (vL x7), none] [] h n Q := by
  refine Rn_lload dX12_sure_110 rfl ?_
  refine Rn_lconst (x := 0) dX12_sure_112 rfl ?_
  refine Rn_lcmp dX12_sure_113 ?_
  refine Rn_ifne (tgt := 121) dX12_sure_114 rfl ?_ ?_
  · exact fun q => kt (lc_ne q)
  · exact fun q => kf (lc_eq q)
theorem BX12_sure_117 {d bc bs : Nat} {h : aH} {n : Nat} {Q : aQ} {r0 : Option Nat} {x1 x2 x3 x4 x5 x7 : Int} (k : Q (some (vI (-1))) h n) : Rn d (bc) (bs) mX12_sure 117 [some (vR r0), some (vI x1), some (vI x2), some (vI x3), some (vI x4), some (vL x5), none, some (vL x7), none] [] h n Q := by
  refine Rn_iconst dX12_sure_117 rfl ?_
  refine Rn_goto (tgt := 122) dX12_sure_118 rfl ?_
  exact Rn_ireturn rfl dX12_sure_122 k
theorem BX12_sure_121 {d bc bs : Nat} {h : aH} {n : Nat} {Q : aQ} {r0 : Option Nat} {x1 x2 x3 x4 x5 x7 : Int} (k : Q (some (vI 0)) h n) : Rn d (bc) (bs) mX12_sure 121 [some (vR r0), some (vI x1), some (vI x2), some (vI x3), some (vI x4), some (vL x5), none, some (vL x7), none] [] h n Q := by
  refine Rn_iconst dX12_sure_121 rfl ?_
  exact Rn_ireturn rfl dX12_sure_122 k
theorem dX12_said_0 : decode cX12_said 0 = .ok (.iload_n 1, 1) := by decide +kernel
theorem dX12_said_1 : decode cX12_said 1 = .ok (.iconst (-1), 1) := by decide +kernel
theorem dX12_said_2 : decode cX12_said 2 = .ok (.if_icmp .ne 14, 3) := by decide +kernel
theorem dX12_said_5 : decode cX12_said 5 = .ok (.aload_n 0, 1) := by decide +kernel
theorem dX12_said_6 : decode cX12_said 6 = .ok (.getfield 10, 3) := by decide +kernel
theorem dX12_said_9 : decode cX12_said 9 = .ok (.getfield 263, 3) := by decide +kernel
theorem dX12_said_12 : decode cX12_said 12 = .ok (.invokevirtual 362, 3) := by decide +kernel
theorem dX12_said_15 : decode cX12_said 15 = .ok (.ireturn, 1) := by decide +kernel
theorem dX12_said_16 : decode cX12_said 16 = .ok (.aload_n 0, 1) := by decide +kernel
theorem dX12_said_17 : decode cX12_said 17 = .ok (.getfield 10, 3) := by decide +kernel
theorem dX12_said_20 : decode cX12_said 20 = .ok (.getfield 128, 3) := by decide +kernel
theorem dX12_said_23 : decode cX12_said 23 = .ok (.iload_n 1, 1) := by decide +kernel
theorem dX12_said_24 : decode cX12_said 24 = .ok (.invokevirtual 202, 3) := by decide +kernel
theorem dX12_said_27 : decode cX12_said 27 = .ok (.ifCond .eq 13, 3) := by decide +kernel
theorem dX12_said_30 : decode cX12_said 30 = .ok (.iload_n 2, 1) := by decide +kernel
theorem dX12_said_31 : decode cX12_said 31 = .ok (.iconst 0, 1) := by decide +kernel
theorem dX12_said_32 : decode cX12_said 32 = .ok (.bipush 10, 2) := by decide +kernel
theorem dX12_said_34 : decode cX12_said 34 = .ok (.invokestatic 93, 3) := by decide +kernel
theorem dX12_said_37 : decode cX12_said 37 = .ok (.ifCond .ne 6, 3) := by decide +kernel
theorem dX12_said_40 : decode cX12_said 40 = .ok (.bipush (-2), 2) := by decide +kernel
theorem dX12_said_42 : decode cX12_said 42 = .ok (.ireturn, 1) := by decide +kernel
theorem dX12_said_43 : decode cX12_said 43 = .ok (.aload_n 0, 1) := by decide +kernel
theorem dX12_said_44 : decode cX12_said 44 = .ok (.getfield 10, 3) := by decide +kernel
theorem dX12_said_47 : decode cX12_said 47 = .ok (.getfield 263, 3) := by decide +kernel
theorem dX12_said_50 : decode cX12_said 50 = .ok (.iload_n 1, 1) := by decide +kernel
theorem dX12_said_51 : decode cX12_said 51 = .ok (.iload_n 2, 1) := by decide +kernel
theorem dX12_said_52 : decode cX12_said 52 = .ok (.invokevirtual 365, 3) := by decide +kernel
theorem dX12_said_55 : decode cX12_said 55 = .ok (.ireturn, 1) := by decide +kernel
theorem BX12_said_0 {d bc bs : Nat} {h : aH} {n : Nat} {Q : aQ} {r0 : Option Nat} {x1 x2 : Int} (kt : x1 ≠ (-1) → Rn d bc bs mX12_said 16 [some (vR r0), some (vI x1), some (vI x2)] [] h n Q) (kf : x1 = (-1) → Rn d bc bs mX12_said 5 [some (vR r0), some (vI x1), some (vI x2)] [] h n Q) : Rn d (bc) (bs) mX12_said 0 [some (vR r0), some (vI x1), some (vI x2)] [] h n Q := by
  refine Rn_iload_n dX12_said_0 rfl rfl ?_
  refine Rn_iconst dX12_said_1 rfl ?_
  refine Rn_icmpne (tgt := 16) dX12_said_2 rfl ?_ ?_
  · exact kt
  · exact kf
theorem BX12_said_5 {d bc bs : Nat} {h : aH} {n : Nat} {Q : aQ} {ar0 at3 at7 : Nat} {x1 x2 : Int} {f1 f5 f9 : List aV} (h2 : h ar0 = cO 12 f1) (g4 : f1[0]? = some (vR (some at3))) (h6 : h at3 = cO 11 f5) (g8 : f5[3]? = some (vR (some at7))) (h10 : h at7 = cO 5 f9) (k : Rn d 0 0 mX5_forgetSaid 0 [some (vR (some at7))] [] h n (fun v h1 n1 => Rn (d + 1) bc bs mX12_said 15 [some (vR (some ar0)), some (vI x1), some (vI x2)] (v.toList ++ []) h1 n1 Q)) : Rn (d + 1) (bc) (bs) mX12_said 5 [some (vR (some ar0)), some (vI x1), some (vI x2)] [] h n Q := by
  refine Rn_aload_n dX12_said_5 rfl rfl rfl ?_
  refine Rn_getfield (ci := 12) (k := 0) dX12_said_6 rfl in_12 (Nat.le_of_ble_eq_true rfl) wd_460 rfl h2 g4 ?_
  refine Rn_getfield (ci := 11) (k := 3) dX12_said_9 rfl in_11 (Nat.le_of_ble_eq_true rfl) wd_299 rfl h6 g8 ?_
  exact Rn_callV (ci := 5) (avs := []) (st := []) (bc1 := 0) (bs1 := 0) (bc2 := bc) (bs2 := bs) fx_X5_forgetSaid dX12_said_12 wd_1292 wd_1293 wd_1294 rfl h10 rfl (Nat.le_of_ble_eq_true rfl) (Nat.le_of_ble_eq_true rfl) (by omega) (by omega) (ls1 := [some (vR (some at7))]) rfl k
theorem BX12_said_15 {d bc bs : Nat} {h : aH} {n : Nat} {Q : aQ} {r0 : Option Nat} {x1 x2 s0 : Int} (k : Q (some (vI s0)) h n) : Rn d (bc) (bs) mX12_said 15 [some (vR r0), some (vI x1), some (vI x2)] [vI s0] h n Q := by
  exact Rn_ireturn rfl dX12_said_15 k
theorem BX12_said_16 {d bc bs : Nat} {h : aH} {n : Nat} {Q : aQ} {ar0 at3 at7 : Nat} {x1 x2 : Int} {f1 f5 f9 : List aV} (h2 : h ar0 = cO 12 f1) (g4 : f1[0]? = some (vR (some at3))) (h6 : h at3 = cO 11 f5) (g8 : f5[1]? = some (vR (some at7))) (h10 : h at7 = cO 6 f9) (k : Rn d 0 0 mX6_hasBottle 0 [some (vR (some at7)), some (vI x1)] [] h n (fun v h1 n1 => Rn (d + 1) bc bs mX12_said 27 [some (vR (some ar0)), some (vI x1), some (vI x2)] (v.toList ++ []) h1 n1 Q)) : Rn (d + 1) (bc) (bs) mX12_said 16 [some (vR (some ar0)), some (vI x1), some (vI x2)] [] h n Q := by
  refine Rn_aload_n dX12_said_16 rfl rfl rfl ?_
  refine Rn_getfield (ci := 12) (k := 0) dX12_said_17 rfl in_12 (Nat.le_of_ble_eq_true rfl) wd_460 rfl h2 g4 ?_
  refine Rn_getfield (ci := 11) (k := 1) dX12_said_20 rfl in_11 (Nat.le_of_ble_eq_true rfl) wd_295 rfl h6 g8 ?_
  refine Rn_iload_n dX12_said_23 rfl rfl ?_
  exact Rn_callV (ci := 6) (avs := [vI x1]) (st := []) (bc1 := 0) (bs1 := 0) (bc2 := bc) (bs2 := bs) fx_X6_hasBottle dX12_said_24 wd_862 wd_836 wd_837 rfl h10 rfl (Nat.le_of_ble_eq_true rfl) (Nat.le_of_ble_eq_true rfl) (by omega) (by omega) (ls1 := [some (vR (some at7)), some (vI x1)]) rfl k
theorem BX12_said_27 {d bc bs : Nat} {h : aH} {n : Nat} {Q : aQ} {r0 : Option Nat} {x1 x2 s0 : Int} (kt : s0 = 0 → Rn d bc bs mX12_said 40 [some (vR r0), some (vI x1), some (vI x2)] [] h n Q) (kf : s0 ≠ 0 → Rn d bc bs mX12_said 30 [some (vR r0), some (vI x1), some (vI x2)] [] h n Q) : Rn d (bc) (bs) mX12_said 27 [some (vR r0), some (vI x1), some (vI x2)] [vI s0] h n Q := by
  refine Rn_ifeq (tgt := 40) dX12_said_27 rfl ?_ ?_
  · exact kt
  · exact kf
theorem BX12_said_30 {d bc bs : Nat} {h : aH} {n : Nat} {Q : aQ} {r0 : Option Nat} {x1 x2 : Int} (k : Rn d 0 0 mX12_within 0 [some (vI x2), some (vI 0), some (vI 10)] [] h n (fun v h1 n1 => Rn (d + 1) bc bs mX12_said 37 [some (vR r0), some (vI x1), some (vI x2)] (v.toList ++ []) h1 n1 Q)) : Rn (d + 1) (bc) (bs) mX12_said 30 [some (vR r0), some (vI x1), some (vI x2)] [] h n Q := by
  refine Rn_iload_n dX12_said_30 rfl rfl ?_
  refine Rn_iconst dX12_said_31 rfl ?_
  refine Rn_bipush dX12_said_32 rfl ?_
  exact Rn_callS (avs := [vI x2, vI 0, vI 10]) (st := []) (bc1 := 0) (bs1 := 0) (bc2 := bc) (bs2 := bs) fx_X12_within dX12_said_34 (Or.inl wd_502) wd_503 rfl (Nat.le_of_ble_eq_true rfl) (Nat.le_of_ble_eq_true rfl) (by omega) (by omega) (ls1 := [some (vI x2), some (vI 0), some (vI 10)]) rfl k
theorem BX12_said_37 {d bc bs : Nat} {h : aH} {n : Nat} {Q : aQ} {r0 : Option Nat} {x1 x2 s0 : Int} (kt : s0 ≠ 0 → Rn d bc bs mX12_said 43 [some (vR r0), some (vI x1), some (vI x2)] [] h n Q) (kf : s0 = 0 → Rn d bc bs mX12_said 40 [some (vR r0), some (vI x1), some (vI x2)] [] h n Q) : Rn d (bc) (bs) mX12_said 37 [some (vR r0), some (vI x1), some (vI x2)] [vI s0] h n Q := by
  refine Rn_ifne (tgt := 43) dX12_said_37 rfl ?_ ?_
  · exact kt
  · exact kf
theorem BX12_said_40 {d bc bs : Nat} {h : aH} {n : Nat} {Q : aQ} {r0 : Option Nat} {x1 x2 : Int} (k : Q (some (vI (-2))) h n) : Rn d (bc) (bs) mX12_said 40 [some (vR r0), some (vI x1), some (vI x2)] [] h n Q := by
  refine Rn_bipush dX12_said_40 rfl ?_
  exact Rn_ireturn rfl dX12_said_42 k
theorem BX12_said_43 {d bc bs : Nat} {h : aH} {n : Nat} {Q : aQ} {ar0 at3 at7 : Nat} {x1 x2 : Int} {f1 f5 f9 : List aV} (h2 : h ar0 = cO 12 f1) (g4 : f1[0]? = some (vR (some at3))) (h6 : h at3 = cO 11 f5) (g8 : f5[3]? = some (vR (some at7))) (h10 : h at7 = cO 5 f9) (k : Rn d 0 0 mX5_addSaid 0 [some (vR (some at7)), some (vI x1), some (vI x2)] [] h n (fun v h1 n1 => Rn (d + 1) bc bs mX12_said 55 [some (vR (some ar0)), some (vI x1), some (vI x2)] (v.toList ++ []) h1 n1 Q)) : Rn (d + 1) (bc) (bs) mX12_said 43 [some (vR (some ar0)), some (vI x1), some (vI x2)] [] h n Q := by
  refine Rn_aload_n dX12_said_43 rfl rfl rfl ?_
  refine Rn_getfield (ci := 12) (k := 0) dX12_said_44 rfl in_12 (Nat.le_of_ble_eq_true rfl) wd_460 rfl h2 g4 ?_
  refine Rn_getfield (ci := 11) (k := 3) dX12_said_47 rfl in_11 (Nat.le_of_ble_eq_true rfl) wd_299 rfl h6 g8 ?_
  refine Rn_iload_n dX12_said_50 rfl rfl ?_
  refine Rn_iload_n dX12_said_51 rfl rfl ?_
  exact Rn_callV (ci := 5) (avs := [vI x1, vI x2]) (st := []) (bc1 := 0) (bs1 := 0) (bc2 := bc) (bs2 := bs) fx_X5_addSaid dX12_said_52 wd_1296 wd_1297 wd_1298 rfl h10 rfl (Nat.le_of_ble_eq_true rfl) (Nat.le_of_ble_eq_true rfl) (by omega) (by omega) (ls1 := [some (vR (some at7)), some (vI x1), some (vI x2)]) rfl k
theorem BX12_said_55 {d bc bs : Nat} {h : aH} {n : Nat} {Q : aQ} {r0 : Option Nat} {x1 x2 s0 : Int} (k : Q (some (vI s0)) h n) : Rn d (bc) (bs) mX12_said 55 [some (vR r0), some (vI x1), some (vI x2)] [vI s0] h n Q := by
  exact Rn_ireturn rfl dX12_said_55 k
theorem dX12_whose_0 : decode cX12_whose 0 = .ok (.iconst 0, 1) := by decide +kernel
theorem dX12_whose_1 : decode cX12_whose 1 = .ok (.istore_n 1, 1) := by decide +kernel
theorem dX12_whose_2 : decode cX12_whose 2 = .ok (.iconst 0, 1) := by decide +kernel
theorem dX12_whose_3 : decode cX12_whose 3 = .ok (.istore_n 2, 1) := by decide +kernel
theorem dX12_whose_4 : decode cX12_whose 4 = .ok (.iload_n 2, 1) := by decide +kernel
theorem dX12_whose_5 : decode cX12_whose 5 = .ok (.aload_n 0, 1) := by decide +kernel
theorem dX12_whose_6 : decode cX12_whose 6 = .ok (.getfield 10, 3) := by decide +kernel
theorem dX12_whose_9 : decode cX12_whose 9 = .ok (.getfield 96, 3) := by decide +kernel
theorem dX12_whose_12 : decode cX12_whose 12 = .ok (.if_icmp .ge 30, 3) := by decide +kernel
theorem dX12_whose_15 : decode cX12_whose 15 = .ok (.aload_n 0, 1) := by decide +kernel
theorem dX12_whose_16 : decode cX12_whose 16 = .ok (.aload_n 0, 1) := by decide +kernel
theorem dX12_whose_17 : decode cX12_whose 17 = .ok (.getfield 10, 3) := by decide +kernel
theorem dX12_whose_20 : decode cX12_whose 20 = .ok (.iload_n 2, 1) := by decide +kernel
theorem dX12_whose_21 : decode cX12_whose 21 = .ok (.invokevirtual 138, 3) := by decide +kernel
theorem dX12_whose_24 : decode cX12_whose 24 = .ok (.invokevirtual 368, 3) := by decide +kernel
theorem dX12_whose_27 : decode cX12_whose 27 = .ok (.ifCond .eq 9, 3) := by decide +kernel
theorem dX12_whose_30 : decode cX12_whose 30 = .ok (.iload_n 1, 1) := by decide +kernel
theorem dX12_whose_31 : decode cX12_whose 31 = .ok (.iconst 1, 1) := by decide +kernel
theorem dX12_whose_32 : decode cX12_whose 32 = .ok (.iload_n 2, 1) := by decide +kernel
theorem dX12_whose_33 : decode cX12_whose 33 = .ok (.ishl, 1) := by decide +kernel
theorem dX12_whose_34 : decode cX12_whose 34 = .ok (.ior, 1) := by decide +kernel
theorem dX12_whose_35 : decode cX12_whose 35 = .ok (.istore_n 1, 1) := by decide +kernel
theorem dX12_whose_36 : decode cX12_whose 36 = .ok (.iinc 2 1, 3) := by decide +kernel
theorem dX12_whose_39 : decode cX12_whose 39 = .ok (.goto (-35), 3) := by decide +kernel
theorem dX12_whose_42 : decode cX12_whose 42 = .ok (.iload_n 1, 1) := by decide +kernel
theorem dX12_whose_43 : decode cX12_whose 43 = .ok (.ireturn, 1) := by decide +kernel
theorem BX12_whose_0 {d bc bs : Nat} {h : aH} {n : Nat} {Q : aQ} {r0 : Option Nat} {l1 l2 : Option aV} (k : Rn d bc bs mX12_whose 4 [some (vR r0), some (vI 0), some (vI 0)] [] h n Q) : Rn d (bc) (bs) mX12_whose 0 [some (vR r0), l1, l2] [] h n Q := by
  refine Rn_iconst dX12_whose_0 rfl ?_
  refine Rn_istore_n dX12_whose_1 rfl (Nat.le_of_ble_eq_true rfl) rfl rfl ?_
  refine Rn_iconst dX12_whose_2 rfl ?_
  refine Rn_istore_n dX12_whose_3 rfl (Nat.le_of_ble_eq_true rfl) rfl rfl ?_
  exact k
theorem BX12_whose_4 {d bc bs : Nat} {h : aH} {n : Nat} {Q : aQ} {ar0 at3 : Nat} {x1 x2 v7 : Int} {f1 f5 : List aV} (h2 : h ar0 = cO 12 f1) (g4 : f1[0]? = some (vR (some at3))) (h6 : h at3 = cO 11 f5) (g8 : f5[5]? = some (vI v7)) (kt : v7 ≤ x2 → Rn d bc bs mX12_whose 42 [some (vR (some ar0)), some (vI x1), some (vI x2)] [] h n Q) (kf : x2 < v7 → Rn d bc bs mX12_whose 15 [some (vR (some ar0)), some (vI x1), some (vI x2)] [] h n Q) : Rn d (bc) (bs) mX12_whose 4 [some (vR (some ar0)), some (vI x1), some (vI x2)] [] h n Q := by
  refine Rn_iload_n dX12_whose_4 rfl rfl ?_
  refine Rn_aload_n dX12_whose_5 rfl rfl rfl ?_
  refine Rn_getfield (ci := 12) (k := 0) dX12_whose_6 rfl in_12 (Nat.le_of_ble_eq_true rfl) wd_460 rfl h2 g4 ?_
  refine Rn_getfield (ci := 11) (k := 5) dX12_whose_9 rfl in_11 (Nat.le_of_ble_eq_true rfl) wd_302 rfl h6 g8 ?_
  refine Rn_icmpge (tgt := 42) dX12_whose_12 rfl ?_ ?_
  · exact kt
  · exact kf
theorem BX12_whose_15 {d bc bs : Nat} {h : aH} {n : Nat} {Q : aQ} {ar0 at3 : Nat} {x1 x2 : Int} {f1 f5 : List aV} (h2 : h ar0 = cO 12 f1) (g4 : f1[0]? = some (vR (some at3))) (h6 : h at3 = cO 11 f5) (k : Rn d 0 0 mX11_textOf 0 [some (vR (some at3)), some (vI x2)] [] h n (fun v h1 n1 => Rn (d + 1) bc bs mX12_whose 24 [some (vR (some ar0)), some (vI x1), some (vI x2)] (v.toList ++ [vR (some ar0)]) h1 n1 Q)) : Rn (d + 1) (bc) (bs) mX12_whose 15 [some (vR (some ar0)), some (vI x1), some (vI x2)] [] h n Q := by
  refine Rn_aload_n dX12_whose_15 rfl rfl rfl ?_
  refine Rn_aload_n dX12_whose_16 rfl rfl rfl ?_
  refine Rn_getfield (ci := 12) (k := 0) dX12_whose_17 rfl in_12 (Nat.le_of_ble_eq_true rfl) wd_460 rfl h2 g4 ?_
  refine Rn_iload_n dX12_whose_20 rfl rfl ?_
  exact Rn_callV (ci := 11) (avs := [vI x2]) (st := [vR (some ar0)]) (bc1 := 0) (bs1 := 0) (bc2 := bc) (bs2 := bs) fx_X11_textOf dX12_whose_21 wd_953 wd_876 wd_877 rfl h6 rfl (Nat.le_of_ble_eq_true rfl) (Nat.le_of_ble_eq_true rfl) (by omega) (by omega) (ls1 := [some (vR (some at3)), some (vI x2)]) rfl k
theorem BX12_whose_24 {d bc bs : Nat} {h : aH} {n : Nat} {Q : aQ} {r0 q1 : Option Nat} {x1 x2 : Int} {aq0 : Nat} {f1 : List aV} (h2 : h aq0 = cO 12 f1) (k : Rn d 0 0 mX12_allSaidBy 0 [some (vR (some aq0)), some (vR q1), none, none] [] h n (fun v h1 n1 => Rn (d + 1) bc bs mX12_whose 27 [some (vR r0), some (vI x1), some (vI x2)] (v.toList ++ []) h1 n1 Q)) : Rn (d + 1) (bc) (bs) mX12_whose 24 [some (vR r0), some (vI x1), some (vI x2)] [vR q1, vR (some aq0)] h n Q := by
  exact Rn_callV (ci := 12) (avs := [vR q1]) (st := []) (bc1 := 0) (bs1 := 0) (bc2 := bc) (bs2 := bs) fx_X12_allSaidBy dX12_whose_24 wd_1304 wd_1306 wd_44 rfl h2 rfl (Nat.le_of_ble_eq_true rfl) (Nat.le_of_ble_eq_true rfl) (by omega) (by omega) (ls1 := [some (vR (some aq0)), some (vR q1), none, none]) rfl k
theorem BX12_whose_27 {d bc bs : Nat} {h : aH} {n : Nat} {Q : aQ} {r0 : Option Nat} {x1 x2 s0 : Int} (kt : s0 = 0 → Rn d bc bs mX12_whose 36 [some (vR r0), some (vI x1), some (vI x2)] [] h n Q) (kf : s0 ≠ 0 → Rn d bc bs mX12_whose 30 [some (vR r0), some (vI x1), some (vI x2)] [] h n Q) : Rn d (bc) (bs) mX12_whose 27 [some (vR r0), some (vI x1), some (vI x2)] [vI s0] h n Q := by
  refine Rn_ifeq (tgt := 36) dX12_whose_27 rfl ?_ ?_
  · exact kt
  · exact kf
theorem BX12_whose_30 {d bc bs : Nat} {h : aH} {n : Nat} {Q : aQ} {r0 : Option Nat} {x1 x2 : Int} (b1 : -2147483648 ≤ x2 + 1 ∧ x2 + 1 < 2147483648) (k : Rn d bc bs mX12_whose 4 [some (vR r0), some (vI (or32 x1 (shl32 1 x2))), some (vI (x2 + 1))] [] h n Q) : Rn d (bc) (bs) mX12_whose 30 [some (vR r0), some (vI x1), some (vI x2)] [] h n Q := by
  refine Rn_iload_n dX12_whose_30 rfl rfl ?_
  refine Rn_iconst dX12_whose_31 rfl ?_
  refine Rn_iload_n dX12_whose_32 rfl rfl ?_
  refine Rn_ishl dX12_whose_33 ?_
  refine Rn_ior dX12_whose_34 ?_
  refine Rn_istore_n dX12_whose_35 rfl (Nat.le_of_ble_eq_true rfl) rfl rfl ?_
  refine Rn_iinc dX12_whose_36 rfl (Nat.le_of_ble_eq_true rfl) rfl rfl rfl ?_
  rw [w32_id b1.1 b1.2]
  refine Rn_goto (tgt := 4) dX12_whose_39 rfl ?_
  exact k
theorem BX12_whose_36 {d bc bs : Nat} {h : aH} {n : Nat} {Q : aQ} {r0 : Option Nat} {x1 x2 : Int} (b1 : -2147483648 ≤ x2 + 1 ∧ x2 + 1 < 2147483648) (k : Rn d bc bs mX12_whose 4 [some (vR r0), some (vI x1), some (vI (x2 + 1))] [] h n Q) : Rn d (bc) (bs) mX12_whose 36 [some (vR r0), some (vI x1), some (vI x2)] [] h n Q := by
  refine Rn_iinc dX12_whose_36 rfl (Nat.le_of_ble_eq_true rfl) rfl rfl rfl ?_
  rw [w32_id b1.1 b1.2]
  refine Rn_goto (tgt := 4) dX12_whose_39 rfl ?_
  exact k
theorem BX12_whose_42 {d bc bs : Nat} {h : aH} {n : Nat} {Q : aQ} {r0 : Option Nat} {x1 x2 : Int} (k : Q (some (vI x1)) h n) : Rn d (bc) (bs) mX12_whose 42 [some (vR r0), some (vI x1), some (vI x2)] [] h n Q := by
  refine Rn_iload_n dX12_whose_42 rfl rfl ?_
  exact Rn_ireturn rfl dX12_whose_43 k
theorem dX12_allSaidBy_0 : decode cX12_allSaidBy 0 = .ok (.iconst 0, 1) := by decide +kernel
theorem dX12_allSaidBy_1 : decode cX12_allSaidBy 1 = .ok (.istore_n 2, 1) := by decide +kernel
theorem dX12_allSaidBy_2 : decode cX12_allSaidBy 2 = .ok (.iload_n 2, 1) := by decide +kernel
theorem dX12_allSaidBy_3 : decode cX12_allSaidBy 3 = .ok (.aload_n 0, 1) := by decide +kernel
theorem dX12_allSaidBy_4 : decode cX12_allSaidBy 4 = .ok (.getfield 10, 3) := by decide +kernel
theorem dX12_allSaidBy_7 : decode cX12_allSaidBy 7 = .ok (.getfield 263, 3) := by decide +kernel
theorem dX12_allSaidBy_10 : decode cX12_allSaidBy 10 = .ok (.getfield 275, 3) := by decide +kernel
theorem dX12_allSaidBy_13 : decode cX12_allSaidBy 13 = .ok (.if_icmp .ge 77, 3) := by decide +kernel
theorem dX12_allSaidBy_16 : decode cX12_allSaidBy 16 = .ok (.aload_n 0, 1) := by decide +kernel
theorem dX12_allSaidBy_17 : decode cX12_allSaidBy 17 = .ok (.getfield 10, 3) := by decide +kernel
theorem dX12_allSaidBy_20 : decode cX12_allSaidBy 20 = .ok (.getfield 263, 3) := by decide +kernel
theorem dX12_allSaidBy_23 : decode cX12_allSaidBy 23 = .ok (.iload_n 2, 1) := by decide +kernel
theorem dX12_allSaidBy_24 : decode cX12_allSaidBy 24 = .ok (.invokevirtual 372, 3) := by decide +kernel
theorem dX12_allSaidBy_27 : decode cX12_allSaidBy 27 = .ok (.istore_n 3, 1) := by decide +kernel
theorem dX12_allSaidBy_28 : decode cX12_allSaidBy 28 = .ok (.aload_n 0, 1) := by decide +kernel
theorem dX12_allSaidBy_29 : decode cX12_allSaidBy 29 = .ok (.getfield 10, 3) := by decide +kernel
theorem dX12_allSaidBy_32 : decode cX12_allSaidBy 32 = .ok (.getfield 128, 3) := by decide +kernel
theorem dX12_allSaidBy_35 : decode cX12_allSaidBy 35 = .ok (.iload_n 3, 1) := by decide +kernel
theorem dX12_allSaidBy_36 : decode cX12_allSaidBy 36 = .ok (.invokevirtual 202, 3) := by decide +kernel
theorem dX12_allSaidBy_39 : decode cX12_allSaidBy 39 = .ok (.ifCond .ne 6, 3) := by decide +kernel
theorem dX12_allSaidBy_42 : decode cX12_allSaidBy 42 = .ok (.goto 42, 3) := by decide +kernel
theorem dX12_allSaidBy_45 : decode cX12_allSaidBy 45 = .ok (.aload_n 0, 1) := by decide +kernel
theorem dX12_allSaidBy_46 : decode cX12_allSaidBy 46 = .ok (.getfield 36, 3) := by decide +kernel
theorem dX12_allSaidBy_49 : decode cX12_allSaidBy 49 = .ok (.aload_n 1, 1) := by decide +kernel
theorem dX12_allSaidBy_50 : decode cX12_allSaidBy 50 = .ok (.aload_n 0, 1) := by decide +kernel
theorem dX12_allSaidBy_51 : decode cX12_allSaidBy 51 = .ok (.getfield 10, 3) := by decide +kernel
theorem dX12_allSaidBy_54 : decode cX12_allSaidBy 54 = .ok (.getfield 128, 3) := by decide +kernel
theorem dX12_allSaidBy_57 : decode cX12_allSaidBy 57 = .ok (.aload_n 0, 1) := by decide +kernel
theorem dX12_allSaidBy_58 : decode cX12_allSaidBy 58 = .ok (.getfield 10, 3) := by decide +kernel
theorem dX12_allSaidBy_61 : decode cX12_allSaidBy 61 = .ok (.getfield 68, 3) := by decide +kernel
theorem dX12_allSaidBy_64 : decode cX12_allSaidBy 64 = .ok (.iload_n 3, 1) := by decide +kernel
theorem dX12_allSaidBy_65 : decode cX12_allSaidBy 65 = .ok (.invokevirtual 228, 3) := by decide +kernel
theorem dX12_allSaidBy_68 : decode cX12_allSaidBy 68 = .ok (.aload_n 0, 1) := by decide +kernel
theorem dX12_allSaidBy_69 : decode cX12_allSaidBy 69 = .ok (.getfield 10, 3) := by decide +kernel
theorem dX12_allSaidBy_72 : decode cX12_allSaidBy 72 = .ok (.getfield 263, 3) := by decide +kernel
theorem dX12_allSaidBy_75 : decode cX12_allSaidBy 75 = .ok (.iload_n 2, 1) := by decide +kernel
theorem dX12_allSaidBy_76 : decode cX12_allSaidBy 76 = .ok (.invokevirtual 375, 3) := by decide +kernel
theorem dX12_allSaidBy_79 : decode cX12_allSaidBy 79 = .ok (.if_icmp .eq 5, 3) := by decide +kernel
theorem dX12_allSaidBy_82 : decode cX12_allSaidBy 82 = .ok (.iconst 0, 1) := by decide +kernel
theorem dX12_allSaidBy_83 : decode cX12_allSaidBy 83 = .ok (.ireturn, 1) := by decide +kernel
theorem dX12_allSaidBy_84 : decode cX12_allSaidBy 84 = .ok (.iinc 2 1, 3) := by decide +kernel
theorem dX12_allSaidBy_87 : decode cX12_allSaidBy 87 = .ok (.goto (-85), 3) := by decide +kernel
theorem dX12_allSaidBy_90 : decode cX12_allSaidBy 90 = .ok (.iconst 1, 1) := by decide +kernel
theorem dX12_allSaidBy_91 : decode cX12_allSaidBy 91 = .ok (.ireturn, 1) := by decide +kernel
theorem BX12_allSaidBy_0 {d bc bs : Nat} {h : aH} {n : Nat} {Q : aQ} {r0 r1 : Option Nat} {l2 l3 : Option aV} (k : Rn d bc bs mX12_allSaidBy 2 [some (vR r0), some (vR r1), some (vI 0), l3] [] h n Q) : Rn d (bc) (bs) mX12_allSaidBy 0 [some (vR r0), some (vR r1), l2, l3] [] h n Q := by
  refine Rn_iconst dX12_allSaidBy_0 rfl ?_
  refine Rn_istore_n dX12_allSaidBy_1 rfl (Nat.le_of_ble_eq_true rfl) rfl rfl ?_
  exact k
theorem BX12_allSaidBy_2 {d bc bs : Nat} {h : aH} {n : Nat} {Q : aQ} {ar0 at3 at7 : Nat} {r1 : Option Nat} {x2 v11 : Int} {l3 : Option aV} {f1 f5 f9 : List aV} (h2 : h ar0 = cO 12 f1) (g4 : f1[0]? = some (vR (some at3))) (h6 : h at3 = cO 11 f5) (g8 : f5[3]? = some (vR (some at7))) (h10 : h at7 = cO 5 f9) (g12 : f9[9]? = some (vI v11)) (kt : v11 ≤ x2 → Rn d bc bs mX12_allSaidBy 90 [some (vR (some ar0)), some (vR r1), some (vI x2), l3] [] h n Q) (kf : x2 < v11 → Rn d bc bs mX12_allSaidBy 16 [some (vR (some ar0)), some (vR r1), some (vI x2), l3] [] h n Q) : Rn d (bc) (bs) mX12_allSaidBy 2 [some (vR (some ar0)), some (vR r1), some (vI x2), l3] [] h n Q := by
  refine Rn_iload_n dX12_allSaidBy_2 rfl rfl ?_
  refine Rn_aload_n dX12_allSaidBy_3 rfl rfl rfl ?_
  refine Rn_getfield (ci := 12) (k := 0) dX12_allSaidBy_4 rfl in_12 (Nat.le_of_ble_eq_true rfl) wd_460 rfl h2 g4 ?_
  refine Rn_getfield (ci := 11) (k := 3) dX12_allSaidBy_7 rfl in_11 (Nat.le_of_ble_eq_true rfl) wd_299 rfl h6 g8 ?_
  refine Rn_getfield (ci := 5) (k := 9) dX12_allSaidBy_10 rfl in_5 (Nat.le_of_ble_eq_true rfl) wd_260 rfl h10 g12 ?_
  refine Rn_icmpge (tgt := 90) dX12_allSaidBy_13 rfl ?_ ?_
  · exact kt
  · exact kf
theorem BX12_allSaidBy_16 {d bc bs : Nat} {h : aH} {n : Nat} {Q : aQ} {ar0 at3 at7 : Nat} {r1 : Option Nat} {x2 : Int} {l3 : Option aV} {f1 f5 f9 : List aV} (h2 : h ar0 = cO 12 f1) (g4 : f1[0]? = some (vR (some at3))) (h6 : h at3 = cO 11 f5) (g8 : f5[3]? = some (vR (some at7))) (h10 : h at7 = cO 5 f9) (k : Rn d 0 0 mX5_saidBottle 0 [some (vR (some at7)), some (vI x2)] [] h n (fun v h1 n1 => Rn (d + 1) bc bs mX12_allSaidBy 27 [some (vR (some ar0)), some (vR r1), some (vI x2), l3] (v.toList ++ []) h1 n1 Q)) : Rn (d + 1) (bc) (bs) mX12_allSaidBy 16 [some (vR (some ar0)), some (vR r1), some (vI x2), l3] [] h n Q := by
  refine Rn_aload_n dX12_allSaidBy_16 rfl rfl rfl ?_
  refine Rn_getfield (ci := 12) (k := 0) dX12_allSaidBy_17 rfl in_12 (Nat.le_of_ble_eq_true rfl) wd_460 rfl h2 g4 ?_
  refine Rn_getfield (ci := 11) (k := 3) dX12_allSaidBy_20 rfl in_11 (Nat.le_of_ble_eq_true rfl) wd_299 rfl h6 g8 ?_
  refine Rn_iload_n dX12_allSaidBy_23 rfl rfl ?_
  exact Rn_callV (ci := 5) (avs := [vI x2]) (st := []) (bc1 := 0) (bs1 := 0) (bc2 := bc) (bs2 := bs) fx_X5_saidBottle dX12_allSaidBy_24 wd_1308 wd_1309 wd_1310 rfl h10 rfl (Nat.le_of_ble_eq_true rfl) (Nat.le_of_ble_eq_true rfl) (by omega) (by omega) (ls1 := [some (vR (some at7)), some (vI x2)]) rfl k
theorem BX12_allSaidBy_27 {d bc bs : Nat} {h : aH} {n : Nat} {Q : aQ} {ar0 at3 at7 : Nat} {r1 : Option Nat} {x2 s0 : Int} {l3 : Option aV} {f1 f5 f9 : List aV} (h2 : h ar0 = cO 12 f1) (g4 : f1[0]? = some (vR (some at3))) (h6 : h at3 = cO 11 f5) (g8 : f5[1]? = some (vR (some at7))) (h10 : h at7 = cO 6 f9) (k : Rn d 0 0 mX6_hasBottle 0 [some (vR (some at7)), some (vI s0)] [] h n (fun v h1 n1 => Rn (d + 1) bc bs mX12_allSaidBy 39 [some (vR (some ar0)), some (vR r1), some (vI x2), some (vI s0)] (v.toList ++ []) h1 n1 Q)) : Rn (d + 1) (bc) (bs) mX12_allSaidBy 27 [some (vR (some ar0)), some (vR r1), some (vI x2), l3] [vI s0] h n Q := by
  refine Rn_istore_n dX12_allSaidBy_27 rfl (Nat.le_of_ble_eq_true rfl) rfl rfl ?_
  refine Rn_aload_n dX12_allSaidBy_28 rfl rfl rfl ?_
  refine Rn_getfield (ci := 12) (k := 0) dX12_allSaidBy_29 rfl in_12 (Nat.le_of_ble_eq_true rfl) wd_460 rfl h2 g4 ?_
  refine Rn_getfield (ci := 11) (k := 1) dX12_allSaidBy_32 rfl in_11 (Nat.le_of_ble_eq_true rfl) wd_295 rfl h6 g8 ?_
  refine Rn_iload_n dX12_allSaidBy_35 rfl rfl ?_
  exact Rn_callV (ci := 6) (avs := [vI s0]) (st := []) (bc1 := 0) (bs1 := 0) (bc2 := bc) (bs2 := bs) fx_X6_hasBottle dX12_allSaidBy_36 wd_862 wd_836 wd_837 rfl h10 rfl (Nat.le_of_ble_eq_true rfl) (Nat.le_of_ble_eq_true rfl) (by omega) (by omega) (ls1 := [some (vR (some at7)), some (vI s0)]) rfl k
theorem BX12_allSaidBy_39 {d bc bs : Nat} {h : aH} {n : Nat} {Q : aQ} {r0 r1 : Option Nat} {x2 x3 s0 : Int} (kt : s0 ≠ 0 → Rn d bc bs mX12_allSaidBy 45 [some (vR r0), some (vR r1), some (vI x2), some (vI x3)] [] h n Q) (kf : s0 = 0 → Rn d bc bs mX12_allSaidBy 42 [some (vR r0), some (vR r1), some (vI x2), some (vI x3)] [] h n Q) : Rn d (bc) (bs) mX12_allSaidBy 39 [some (vR r0), some (vR r1), some (vI x2), some (vI x3)] [vI s0] h n Q := by
  refine Rn_ifne (tgt := 45) dX12_allSaidBy_39 rfl ?_ ?_
  · exact kt
  · exact kf
theorem BX12_allSaidBy_42 {d bc bs : Nat} {h : aH} {n : Nat} {Q : aQ} {r0 r1 : Option Nat} {x2 x3 : Int} (b1 : -2147483648 ≤ x2 + 1 ∧ x2 + 1 < 2147483648) (k : Rn d bc bs mX12_allSaidBy 2 [some (vR r0), some (vR r1), some (vI (x2 + 1)), some (vI x3)] [] h n Q) : Rn d (bc) (bs) mX12_allSaidBy 42 [some (vR r0), some (vR r1), some (vI x2), some (vI x3)] [] h n Q := by
  refine Rn_goto (tgt := 84) dX12_allSaidBy_42 rfl ?_
  refine Rn_iinc dX12_allSaidBy_84 rfl (Nat.le_of_ble_eq_true rfl) rfl rfl rfl ?_
  rw [w32_id b1.1 b1.2]
  refine Rn_goto (tgt := 2) dX12_allSaidBy_87 rfl ?_
  exact k
theorem BX12_allSaidBy_45 {d bc bs : Nat} {h : aH} {n : Nat} {Q : aQ} {ar0 at3 at5 : Nat} {r1 t9 t11 : Option Nat} {x2 x3 : Int} {f1 f7 f13 : List aV} (h2 : h ar0 = cO 12 f1) (g4 : f1[4]? = some (vR (some at3))) (g6 : f1[0]? = some (vR (some at5))) (h8 : h at5 = cO 11 f7) (g10 : f7[1]? = some (vR t9)) (g12 : f7[0]? = some (vR t11)) (h14 : h at3 = cO 2 f13) (k : Rn d 0 0 mX2_comesOf 0 [some (vR (some at3)), some (vR r1), some (vR t9), some (vR t11), some (vI x3)] [] h n (fun v h1 n1 => Rn (d + 1) bc bs mX12_allSaidBy 68 [some (vR (some ar0)), some (vR r1), some (vI x2), some (vI x3)] (v.toList ++ []) h1 n1 Q)) : Rn (d + 1) (bc) (bs) mX12_allSaidBy 45 [some (vR (some ar0)), some (vR r1), some (vI x2), some (vI x3)] [] h n Q := by
  refine Rn_aload_n dX12_allSaidBy_45 rfl rfl rfl ?_
  refine Rn_getfield (ci := 12) (k := 4) dX12_allSaidBy_46 rfl in_12 (Nat.le_of_ble_eq_true rfl) wd_464 rfl h2 g4 ?_
  refine Rn_aload_n dX12_allSaidBy_49 rfl rfl rfl ?_
  refine Rn_aload_n dX12_allSaidBy_50 rfl rfl rfl ?_
  refine Rn_getfield (ci := 12) (k := 0) dX12_allSaidBy_51 rfl in_12 (Nat.le_of_ble_eq_true rfl) wd_460 rfl h2 g6 ?_
  refine Rn_getfield (ci := 11) (k := 1) dX12_allSaidBy_54 rfl in_11 (Nat.le_of_ble_eq_true rfl) wd_295 rfl h8 g10 ?_
  refine Rn_aload_n dX12_allSaidBy_57 rfl rfl rfl ?_
  refine Rn_getfield (ci := 12) (k := 0) dX12_allSaidBy_58 rfl in_12 (Nat.le_of_ble_eq_true rfl) wd_460 rfl h2 g6 ?_
  refine Rn_getfield (ci := 11) (k := 0) dX12_allSaidBy_61 rfl in_11 (Nat.le_of_ble_eq_true rfl) wd_293 rfl h8 g12 ?_
  refine Rn_iload_n dX12_allSaidBy_64 rfl rfl ?_
  exact Rn_callV (ci := 2) (avs := [vR r1, vR t9, vR t11, vI x3]) (st := []) (bc1 := 0) (bs1 := 0) (bc2 := bc) (bs2 := bs) fx_X2_comesOf dX12_allSaidBy_65 wd_1003 wd_946 wd_947 rfl h14 rfl (Nat.le_of_ble_eq_true rfl) (Nat.le_of_ble_eq_true rfl) (by omega) (by omega) (ls1 := [some (vR (some at3)), some (vR r1), some (vR t9), some (vR t11), some (vI x3)]) rfl k
theorem BX12_allSaidBy_68 {d bc bs : Nat} {h : aH} {n : Nat} {Q : aQ} {ar0 at3 at7 : Nat} {r1 : Option Nat} {x2 x3 s0 : Int} {f1 f5 f9 : List aV} (h2 : h ar0 = cO 12 f1) (g4 : f1[0]? = some (vR (some at3))) (h6 : h at3 = cO 11 f5) (g8 : f5[3]? = some (vR (some at7))) (h10 : h at7 = cO 5 f9) (k : Rn d 0 0 mX5_saidComes 0 [some (vR (some at7)), some (vI x2)] [] h n (fun v h1 n1 => Rn (d + 1) bc bs mX12_allSaidBy 79 [some (vR (some ar0)), some (vR r1), some (vI x2), some (vI x3)] (v.toList ++ [vI s0]) h1 n1 Q)) : Rn (d + 1) (bc) (bs) mX12_allSaidBy 68 [some (vR (some ar0)), some (vR r1), some (vI x2), some (vI x3)] [vI s0] h n Q := by
  refine Rn_aload_n dX12_allSaidBy_68 rfl rfl rfl ?_
  refine Rn_getfield (ci := 12) (k := 0) dX12_allSaidBy_69 rfl in_12 (Nat.le_of_ble_eq_true rfl) wd_460 rfl h2 g4 ?_
  refine Rn_getfield (ci := 11) (k := 3) dX12_allSaidBy_72 rfl in_11 (Nat.le_of_ble_eq_true rfl) wd_299 rfl h6 g8 ?_
  refine Rn_iload_n dX12_allSaidBy_75 rfl rfl ?_
  exact Rn_callV (ci := 5) (avs := [vI x2]) (st := [vI s0]) (bc1 := 0) (bs1 := 0) (bc2 := bc) (bs2 := bs) fx_X5_saidComes dX12_allSaidBy_76 wd_1312 wd_1313 wd_1314 rfl h10 rfl (Nat.le_of_ble_eq_true rfl) (Nat.le_of_ble_eq_true rfl) (by omega) (by omega) (ls1 := [some (vR (some at7)), some (vI x2)]) rfl k
theorem BX12_allSaidBy_79 {d bc bs : Nat} {h : aH} {n : Nat} {Q : aQ} {r0 r1 : Option Nat} {x2 x3 s0 s1 : Int} (kt : s0 = s1 → Rn d bc bs mX12_allSaidBy 84 [some (vR r0), some (vR r1), some (vI x2), some (vI x3)] [] h n Q) (kf : s0 ≠ s1 → Rn d bc bs mX12_allSaidBy 82 [some (vR r0), some (vR r1), some (vI x2), some (vI x3)] [] h n Q) : Rn d (bc) (bs) mX12_allSaidBy 79 [some (vR r0), some (vR r1), some (vI x2), some (vI x3)] [vI s1, vI s0] h n Q := by
  refine Rn_icmpeq (tgt := 84) dX12_allSaidBy_79 rfl ?_ ?_
  · exact kt
  · exact kf
theorem BX12_allSaidBy_82 {d bc bs : Nat} {h : aH} {n : Nat} {Q : aQ} {r0 r1 : Option Nat} {x2 x3 : Int} (k : Q (some (vI 0)) h n) : Rn d (bc) (bs) mX12_allSaidBy 82 [some (vR r0), some (vR r1), some (vI x2), some (vI x3)] [] h n Q := by
  refine Rn_iconst dX12_allSaidBy_82 rfl ?_
  exact Rn_zreturn rfl dX12_allSaidBy_83 (by decide) k
theorem BX12_allSaidBy_84 {d bc bs : Nat} {h : aH} {n : Nat} {Q : aQ} {r0 r1 : Option Nat} {x2 x3 : Int} (b1 : -2147483648 ≤ x2 + 1 ∧ x2 + 1 < 2147483648) (k : Rn d bc bs mX12_allSaidBy 2 [some (vR r0), some (vR r1), some (vI (x2 + 1)), some (vI x3)] [] h n Q) : Rn d (bc) (bs) mX12_allSaidBy 84 [some (vR r0), some (vR r1), some (vI x2), some (vI x3)] [] h n Q := by
  refine Rn_iinc dX12_allSaidBy_84 rfl (Nat.le_of_ble_eq_true rfl) rfl rfl rfl ?_
  rw [w32_id b1.1 b1.2]
  refine Rn_goto (tgt := 2) dX12_allSaidBy_87 rfl ?_
  exact k
theorem BX12_allSaidBy_90 {d bc bs : Nat} {h : aH} {n : Nat} {Q : aQ} {r0 r1 : Option Nat} {x2 : Int} {l3 : Option aV} (k : Q (some (vI 1)) h n) : Rn d (bc) (bs) mX12_allSaidBy 90 [some (vR r0), some (vR r1), some (vI x2), l3] [] h n Q := by
  refine Rn_iconst dX12_allSaidBy_90 rfl ?_
  exact Rn_zreturn rfl dX12_allSaidBy_91 (by decide) k
theorem dX12_image_0 : decode cX12_image 0 = .ok (.aload_n 0, 1) := by decide +kernel
theorem dX12_image_1 : decode cX12_image 1 = .ok (.getfield 16, 3) := by decide +kernel
theorem dX12_image_4 : decode cX12_image 4 = .ok (.aload_n 0, 1) := by decide +kernel
theorem dX12_image_5 : decode cX12_image 5 = .ok (.getfield 10, 3) := by decide +kernel
theorem dX12_image_8 : decode cX12_image 8 = .ok (.invokevirtual 378, 3) := by decide +kernel
theorem dX12_image_11 : decode cX12_image 11 = .ok (.aload_n 0, 1) := by decide +kernel
theorem dX12_image_12 : decode cX12_image 12 = .ok (.getfield 10, 3) := by decide +kernel
theorem dX12_image_15 : decode cX12_image 15 = .ok (.getfield 128, 3) := by decide +kernel
theorem dX12_image_18 : decode cX12_image 18 = .ok (.getfield 131, 3) := by decide +kernel
theorem dX12_image_21 : decode cX12_image 21 = .ok (.ireturn, 1) := by decide +kernel
theorem BX12_image_0 {d bc bs : Nat} {h : aH} {n : Nat} {Q : aQ} {ar0 at3 : Nat} {f1 f7 : List aV} {t5 : Option Nat} (h2 : h ar0 = cO 12 f1) (g4 : f1[1]? = some (vR (some at3))) (g6 : f1[0]? = some (vR t5)) (h8 : h at3 = cO 11 f7) (k : Rn d 0 0 mX11_copyFrom 0 [some (vR (some at3)), some (vR t5), none] [] h n (fun v h1 n1 => Rn (d + 1) bc bs mX12_image 11 [some (vR (some ar0))] (v.toList ++ []) h1 n1 Q)) : Rn (d + 1) (bc) (bs) mX12_image 0 [some (vR (some ar0))] [] h n Q := by
  refine Rn_aload_n dX12_image_0 rfl rfl rfl ?_
  refine Rn_getfield (ci := 12) (k := 1) dX12_image_1 rfl in_12 (Nat.le_of_ble_eq_true rfl) wd_461 rfl h2 g4 ?_
  refine Rn_aload_n dX12_image_4 rfl rfl rfl ?_
  refine Rn_getfield (ci := 12) (k := 0) dX12_image_5 rfl in_12 (Nat.le_of_ble_eq_true rfl) wd_460 rfl h2 g6 ?_
  exact Rn_callV (ci := 11) (avs := [vR t5]) (st := []) (bc1 := 0) (bs1 := 0) (bc2 := bc) (bs2 := bs) fx_X11_copyFrom dX12_image_8 wd_1320 wd_1321 wd_1322 rfl h8 rfl (Nat.le_of_ble_eq_true rfl) (Nat.le_of_ble_eq_true rfl) (by omega) (by omega) (ls1 := [some (vR (some at3)), some (vR t5), none]) rfl k
theorem BX12_image_11 {d bc bs : Nat} {h : aH} {n : Nat} {Q : aQ} {ar0 at3 at7 : Nat} {f1 f5 f9 : List aV} {v11 : Int} (h2 : h ar0 = cO 12 f1) (g4 : f1[0]? = some (vR (some at3))) (h6 : h at3 = cO 11 f5) (g8 : f5[1]? = some (vR (some at7))) (h10 : h at7 = cO 6 f9) (g12 : f9[3]? = some (vI v11)) (k : Q (some (vI v11)) h n) : Rn d (bc) (bs) mX12_image 11 [some (vR (some ar0))] [] h n Q := by
  refine Rn_aload_n dX12_image_11 rfl rfl rfl ?_
  refine Rn_getfield (ci := 12) (k := 0) dX12_image_12 rfl in_12 (Nat.le_of_ble_eq_true rfl) wd_460 rfl h2 g4 ?_
  refine Rn_getfield (ci := 11) (k := 1) dX12_image_15 rfl in_11 (Nat.le_of_ble_eq_true rfl) wd_295 rfl h6 g8 ?_
  refine Rn_getfield (ci := 6) (k := 3) dX12_image_18 rfl in_6 (Nat.le_of_ble_eq_true rfl) wd_210 rfl h10 g12 ?_
  exact Rn_ireturn rfl dX12_image_21 k
theorem dX12_back_0 : decode cX12_back 0 = .ok (.aload_n 0, 1) := by decide +kernel
theorem dX12_back_1 : decode cX12_back 1 = .ok (.getfield 10, 3) := by decide +kernel
theorem dX12_back_4 : decode cX12_back 4 = .ok (.aload_n 0, 1) := by decide +kernel
theorem dX12_back_5 : decode cX12_back 5 = .ok (.getfield 16, 3) := by decide +kernel
theorem dX12_back_8 : decode cX12_back 8 = .ok (.invokevirtual 378, 3) := by decide +kernel
theorem dX12_back_11 : decode cX12_back 11 = .ok (.aload_n 0, 1) := by decide +kernel
theorem dX12_back_12 : decode cX12_back 12 = .ok (.getfield 10, 3) := by decide +kernel
theorem dX12_back_15 : decode cX12_back 15 = .ok (.getfield 128, 3) := by decide +kernel
theorem dX12_back_18 : decode cX12_back 18 = .ok (.getfield 131, 3) := by decide +kernel
theorem dX12_back_21 : decode cX12_back 21 = .ok (.ireturn, 1) := by decide +kernel
theorem BX12_back_0 {d bc bs : Nat} {h : aH} {n : Nat} {Q : aQ} {ar0 at3 : Nat} {f1 f7 : List aV} {t5 : Option Nat} (h2 : h ar0 = cO 12 f1) (g4 : f1[0]? = some (vR (some at3))) (g6 : f1[1]? = some (vR t5)) (h8 : h at3 = cO 11 f7) (k : Rn d 0 0 mX11_copyFrom 0 [some (vR (some at3)), some (vR t5), none] [] h n (fun v h1 n1 => Rn (d + 1) bc bs mX12_back 11 [some (vR (some ar0))] (v.toList ++ []) h1 n1 Q)) : Rn (d + 1) (bc) (bs) mX12_back 0 [some (vR (some ar0))] [] h n Q := by
  refine Rn_aload_n dX12_back_0 rfl rfl rfl ?_
  refine Rn_getfield (ci := 12) (k := 0) dX12_back_1 rfl in_12 (Nat.le_of_ble_eq_true rfl) wd_460 rfl h2 g4 ?_
  refine Rn_aload_n dX12_back_4 rfl rfl rfl ?_
  refine Rn_getfield (ci := 12) (k := 1) dX12_back_5 rfl in_12 (Nat.le_of_ble_eq_true rfl) wd_461 rfl h2 g6 ?_
  exact Rn_callV (ci := 11) (avs := [vR t5]) (st := []) (bc1 := 0) (bs1 := 0) (bc2 := bc) (bs2 := bs) fx_X11_copyFrom dX12_back_8 wd_1320 wd_1321 wd_1322 rfl h8 rfl (Nat.le_of_ble_eq_true rfl) (Nat.le_of_ble_eq_true rfl) (by omega) (by omega) (ls1 := [some (vR (some at3)), some (vR t5), none]) rfl k
theorem BX12_back_11 {d bc bs : Nat} {h : aH} {n : Nat} {Q : aQ} {ar0 at3 at7 : Nat} {f1 f5 f9 : List aV} {v11 : Int} (h2 : h ar0 = cO 12 f1) (g4 : f1[0]? = some (vR (some at3))) (h6 : h at3 = cO 11 f5) (g8 : f5[1]? = some (vR (some at7))) (h10 : h at7 = cO 6 f9) (g12 : f9[3]? = some (vI v11)) (k : Q (some (vI v11)) h n) : Rn d (bc) (bs) mX12_back 11 [some (vR (some ar0))] [] h n Q := by
  refine Rn_aload_n dX12_back_11 rfl rfl rfl ?_
  refine Rn_getfield (ci := 12) (k := 0) dX12_back_12 rfl in_12 (Nat.le_of_ble_eq_true rfl) wd_460 rfl h2 g4 ?_
  refine Rn_getfield (ci := 11) (k := 1) dX12_back_15 rfl in_11 (Nat.le_of_ble_eq_true rfl) wd_295 rfl h6 g8 ?_
  refine Rn_getfield (ci := 6) (k := 3) dX12_back_18 rfl in_6 (Nat.le_of_ble_eq_true rfl) wd_210 rfl h10 g12 ?_
  exact Rn_ireturn rfl dX12_back_21 k
theorem dX12_within_0 : decode cX12_within 0 = .ok (.iload_n 0, 1) := by decide +kernel
theorem dX12_within_1 : decode cX12_within 1 = .ok (.iload_n 1, 1) := by decide +kernel
theorem dX12_within_2 : decode cX12_within 2 = .ok (.if_icmp .lt 12, 3) := by decide +kernel
theorem dX12_within_5 : decode cX12_within 5 = .ok (.iload_n 0, 1) := by decide +kernel
theorem dX12_within_6 : decode cX12_within 6 = .ok (.iload_n 2, 1) := by decide +kernel
theorem dX12_within_7 : decode cX12_within 7 = .ok (.if_icmp .gt 7, 3) := by decide +kernel
theorem dX12_within_10 : decode cX12_within 10 = .ok (.iconst 1, 1) := by decide +kernel
theorem dX12_within_11 : decode cX12_within 11 = .ok (.goto 4, 3) := by decide +kernel
theorem dX12_within_14 : decode cX12_within 14 = .ok (.iconst 0, 1) := by decide +kernel
theorem dX12_within_15 : decode cX12_within 15 = .ok (.ireturn, 1) := by decide +kernel
theorem BX12_within_0 {d bc bs : Nat} {h : aH} {n : Nat} {Q : aQ} {x0 x1 x2 : Int} (kt : x0 < x1 → Rn d bc bs mX12_within 14 [some (vI x0), some (vI x1), some (vI x2)] [] h n Q) (kf : x1 ≤ x0 → Rn d bc bs mX12_within 5 [some (vI x0), some (vI x1), some (vI x2)] [] h n Q) : Rn d (bc) (bs) mX12_within 0 [some (vI x0), some (vI x1), some (vI x2)] [] h n Q := by
  refine Rn_iload_n dX12_within_0 rfl rfl ?_
  refine Rn_iload_n dX12_within_1 rfl rfl ?_
  refine Rn_icmplt (tgt := 14) dX12_within_2 rfl ?_ ?_
  · exact kt
  · exact kf
theorem BX12_within_5 {d bc bs : Nat} {h : aH} {n : Nat} {Q : aQ} {x0 x1 x2 : Int} (kt : x2 < x0 → Rn d bc bs mX12_within 14 [some (vI x0), some (vI x1), some (vI x2)] [] h n Q) (kf : x0 ≤ x2 → Rn d bc bs mX12_within 10 [some (vI x0), some (vI x1), some (vI x2)] [] h n Q) : Rn d (bc) (bs) mX12_within 5 [some (vI x0), some (vI x1), some (vI x2)] [] h n Q := by
  refine Rn_iload_n dX12_within_5 rfl rfl ?_
  refine Rn_iload_n dX12_within_6 rfl rfl ?_
  refine Rn_icmpgt (tgt := 14) dX12_within_7 rfl ?_ ?_
  · exact kt
  · exact kf
theorem BX12_within_10 {d bc bs : Nat} {h : aH} {n : Nat} {Q : aQ} {x0 x1 x2 : Int} (k : Q (some (vI 1)) h n) : Rn d (bc) (bs) mX12_within 10 [some (vI x0), some (vI x1), some (vI x2)] [] h n Q := by
  refine Rn_iconst dX12_within_10 rfl ?_
  refine Rn_goto (tgt := 15) dX12_within_11 rfl ?_
  exact Rn_zreturn rfl dX12_within_15 (by decide) k
theorem BX12_within_14 {d bc bs : Nat} {h : aH} {n : Nat} {Q : aQ} {x0 x1 x2 : Int} (k : Q (some (vI 0)) h n) : Rn d (bc) (bs) mX12_within 14 [some (vI x0), some (vI x1), some (vI x2)] [] h n Q := by
  refine Rn_iconst dX12_within_14 rfl ?_
  exact Rn_zreturn rfl dX12_within_15 (by decide) k
theorem dX12_isPlace_0 : decode cX12_isPlace 0 = .ok (.iload_n 0, 1) := by decide +kernel
theorem dX12_isPlace_1 : decode cX12_isPlace 1 = .ok (.iconst 0, 1) := by decide +kernel
theorem dX12_isPlace_2 : decode cX12_isPlace 2 = .ok (.bipush 9, 2) := by decide +kernel
theorem dX12_isPlace_4 : decode cX12_isPlace 4 = .ok (.invokestatic 93, 3) := by decide +kernel
theorem dX12_isPlace_7 : decode cX12_isPlace 7 = .ok (.ireturn, 1) := by decide +kernel
theorem BX12_isPlace_0 {d bc bs : Nat} {h : aH} {n : Nat} {Q : aQ} {x0 : Int} (k : Rn d 0 0 mX12_within 0 [some (vI x0), some (vI 0), some (vI 9)] [] h n (fun v h1 n1 => Rn (d + 1) bc bs mX12_isPlace 7 [some (vI x0)] (v.toList ++ []) h1 n1 Q)) : Rn (d + 1) (bc) (bs) mX12_isPlace 0 [some (vI x0)] [] h n Q := by
  refine Rn_iload_n dX12_isPlace_0 rfl rfl ?_
  refine Rn_iconst dX12_isPlace_1 rfl ?_
  refine Rn_bipush dX12_isPlace_2 rfl ?_
  exact Rn_callS (avs := [vI x0, vI 0, vI 9]) (st := []) (bc1 := 0) (bs1 := 0) (bc2 := bc) (bs2 := bs) fx_X12_within dX12_isPlace_4 (Or.inl wd_502) wd_503 rfl (Nat.le_of_ble_eq_true rfl) (Nat.le_of_ble_eq_true rfl) (by omega) (by omega) (ls1 := [some (vI x0), some (vI 0), some (vI 9)]) rfl k
theorem BX12_isPlace_7 {d bc bs : Nat} {h : aH} {n : Nat} {Q : aQ} {x0 s0 : Int} (b1 : s0 = 0 ∨ s0 = 1) (k : Q (some (vI s0)) h n) : Rn d (bc) (bs) mX12_isPlace 7 [some (vI x0)] [vI s0] h n Q := by
  exact Rn_zreturn rfl dX12_isPlace_7 b1 k
theorem dX12_cell_0 : decode cX12_cell 0 = .ok (.iload_n 1, 1) := by decide +kernel
theorem dX12_cell_1 : decode cX12_cell 1 = .ok (.ifCond .lt 15, 3) := by decide +kernel
theorem dX12_cell_4 : decode cX12_cell 4 = .ok (.iload_n 1, 1) := by decide +kernel
theorem dX12_cell_5 : decode cX12_cell 5 = .ok (.aload_n 0, 1) := by decide +kernel
theorem dX12_cell_6 : decode cX12_cell 6 = .ok (.arraylength, 1) := by decide +kernel
theorem dX12_cell_7 : decode cX12_cell 7 = .ok (.if_icmp .ge 9, 3) := by decide +kernel
theorem dX12_cell_10 : decode cX12_cell 10 = .ok (.aload_n 0, 1) := by decide +kernel
theorem dX12_cell_11 : decode cX12_cell 11 = .ok (.iload_n 1, 1) := by decide +kernel
theorem dX12_cell_12 : decode cX12_cell 12 = .ok (.iaload, 1) := by decide +kernel
theorem dX12_cell_13 : decode cX12_cell 13 = .ok (.goto 4, 3) := by decide +kernel
theorem dX12_cell_16 : decode cX12_cell 16 = .ok (.iconst 0, 1) := by decide +kernel
theorem dX12_cell_17 : decode cX12_cell 17 = .ok (.ireturn, 1) := by decide +kernel
theorem BX12_cell_0 {d bc bs : Nat} {h : aH} {n : Nat} {Q : aQ} {r0 : Option Nat} {x1 : Int} (kt : x1 < 0 → Rn d bc bs mX12_cell 16 [some (vR r0), some (vI x1)] [] h n Q) (kf : 0 ≤ x1 → Rn d bc bs mX12_cell 4 [some (vR r0), some (vI x1)] [] h n Q) : Rn d (bc) (bs) mX12_cell 0 [some (vR r0), some (vI x1)] [] h n Q := by
  refine Rn_iload_n dX12_cell_0 rfl rfl ?_
  refine Rn_iflt (tgt := 16) dX12_cell_1 rfl ?_ ?_
  · exact kt
  · exact kf
theorem BX12_cell_4 {d bc bs : Nat} {h : aH} {n : Nat} {Q : aQ} {ar0 : Nat} {x1 : Int} {w1 : List Int} (h2 : h ar0 = cI w1) (y3 : w1.length < 2147483648) (z4 : ar0 ≠ 0) (kt : (w1.length : Int) ≤ x1 → Rn d bc bs mX12_cell 16 [some (vR (some ar0)), some (vI x1)] [] h n Q) (kf : x1 < (w1.length : Int) → Rn d bc bs mX12_cell 10 [some (vR (some ar0)), some (vI x1)] [] h n Q) : Rn d (bc) (bs) mX12_cell 4 [some (vR (some ar0)), some (vI x1)] [] h n Q := by
  refine Rn_iload_n dX12_cell_4 rfl rfl ?_
  refine Rn_aload_n dX12_cell_5 rfl rfl rfl ?_
  refine Rn_alenI dX12_cell_6 z4 h2 y3 ?_
  refine Rn_icmpge (tgt := 16) dX12_cell_7 rfl ?_ ?_
  · exact kt
  · exact kf
theorem BX12_cell_10 {d bc bs : Nat} {h : aH} {n : Nat} {Q : aQ} {ar0 : Nat} {x1 v3 : Int} {w1 : List Int} (h2 : h ar0 = cI w1) (i4 : 0 ≤ x1) (g5 : w1[(x1 : Int).toNat]? = some v3) (k : Q (some (vI v3)) h n) : Rn d (bc) (bs) mX12_cell 10 [some (vR (some ar0)), some (vI x1)] [] h n Q := by
  refine Rn_aload_n dX12_cell_10 rfl rfl rfl ?_
  refine Rn_iload_n dX12_cell_11 rfl rfl ?_
  refine Rn_iaload dX12_cell_12 h2 i4 g5 ?_
  refine Rn_goto (tgt := 17) dX12_cell_13 rfl ?_
  exact Rn_ireturn rfl dX12_cell_17 k
theorem BX12_cell_16 {d bc bs : Nat} {h : aH} {n : Nat} {Q : aQ} {r0 : Option Nat} {x1 : Int} (k : Q (some (vI 0)) h n) : Rn d (bc) (bs) mX12_cell 16 [some (vR r0), some (vI x1)] [] h n Q := by
  refine Rn_iconst dX12_cell_16 rfl ?_
  exact Rn_ireturn rfl dX12_cell_17 k
theorem dX12_setCell_0 : decode cX12_setCell 0 = .ok (.iload_n 1, 1) := by decide +kernel
theorem dX12_setCell_1 : decode cX12_setCell 1 = .ok (.ifCond .lt 13, 3) := by decide +kernel
theorem dX12_setCell_4 : decode cX12_setCell 4 = .ok (.iload_n 1, 1) := by decide +kernel
theorem dX12_setCell_5 : decode cX12_setCell 5 = .ok (.aload_n 0, 1) := by decide +kernel
theorem dX12_setCell_6 : decode cX12_setCell 6 = .ok (.arraylength, 1) := by decide +kernel
theorem dX12_setCell_7 : decode cX12_setCell 7 = .ok (.if_icmp .ge 7, 3) := by decide +kernel
theorem dX12_setCell_10 : decode cX12_setCell 10 = .ok (.aload_n 0, 1) := by decide +kernel
theorem dX12_setCell_11 : decode cX12_setCell 11 = .ok (.iload_n 1, 1) := by decide +kernel
theorem dX12_setCell_12 : decode cX12_setCell 12 = .ok (.iload_n 2, 1) := by decide +kernel
theorem dX12_setCell_13 : decode cX12_setCell 13 = .ok (.iastore, 1) := by decide +kernel
theorem dX12_setCell_14 : decode cX12_setCell 14 = .ok (.return_, 1) := by decide +kernel
theorem BX12_setCell_0 {d bc bs : Nat} {h : aH} {n : Nat} {Q : aQ} {r0 : Option Nat} {x1 x2 : Int} (kt : x1 < 0 → Rn d bc bs mX12_setCell 14 [some (vR r0), some (vI x1), some (vI x2)] [] h n Q) (kf : 0 ≤ x1 → Rn d bc bs mX12_setCell 4 [some (vR r0), some (vI x1), some (vI x2)] [] h n Q) : Rn d (bc) (bs) mX12_setCell 0 [some (vR r0), some (vI x1), some (vI x2)] [] h n Q := by
  refine Rn_iload_n dX12_setCell_0 rfl rfl ?_
  refine Rn_iflt (tgt := 14) dX12_setCell_1 rfl ?_ ?_
  · exact kt
  · exact kf
theorem BX12_setCell_4 {d bc bs : Nat} {h : aH} {n : Nat} {Q : aQ} {ar0 : Nat} {x1 x2 : Int} {w1 : List Int} (h2 : h ar0 = cI w1) (y3 : w1.length < 2147483648) (z4 : ar0 ≠ 0) (kt : (w1.length : Int) ≤ x1 → Rn d bc bs mX12_setCell 14 [some (vR (some ar0)), some (vI x1), some (vI x2)] [] h n Q) (kf : x1 < (w1.length : Int) → Rn d bc bs mX12_setCell 10 [some (vR (some ar0)), some (vI x1), some (vI x2)] [] h n Q) : Rn d (bc) (bs) mX12_setCell 4 [some (vR (some ar0)), some (vI x1), some (vI x2)] [] h n Q := by
  refine Rn_iload_n dX12_setCell_4 rfl rfl ?_
  refine Rn_aload_n dX12_setCell_5 rfl rfl rfl ?_
  refine Rn_alenI dX12_setCell_6 z4 h2 y3 ?_
  refine Rn_icmpge (tgt := 14) dX12_setCell_7 rfl ?_ ?_
  · exact kt
  · exact kf
theorem BX12_setCell_10 {d bc bs : Nat} {h : aH} {n : Nat} {Q : aQ} {ar0 : Nat} {x1 x2 : Int} {w1 : List Int} (h2 : h ar0 = cI w1) (i3 : 0 ≤ x1) (j4 : x1 < w1.length) (z5 : ar0 ≠ 0) (k : Rn d bc bs mX12_setCell 14 [some (vR (some ar0)), some (vI x1), some (vI x2)] [] (up h ar0 (cI (w1.set (x1 : Int).toNat x2))) n Q) : Rn d (bc) (bs) mX12_setCell 10 [some (vR (some ar0)), some (vI x1), some (vI x2)] [] h n Q := by
  refine Rn_aload_n dX12_setCell_10 rfl rfl rfl ?_
  refine Rn_iload_n dX12_setCell_11 rfl rfl ?_
  refine Rn_iload_n dX12_setCell_12 rfl rfl ?_
  refine Rn_iastore dX12_setCell_13 z5 h2 i3 j4 ?_
  exact k
theorem BX12_setCell_14 {d bc bs : Nat} {h : aH} {n : Nat} {Q : aQ} {r0 : Option Nat} {x1 x2 : Int} (k : Q none h n) : Rn d (bc) (bs) mX12_setCell 14 [some (vR r0), some (vI x1), some (vI x2)] [] h n Q := by
  exact Rn_return rfl dX12_setCell_14 k
theorem dX12_copyRow_0 : decode cX12_copyRow 0 = .ok (.aload_n 0, 1) := by decide +kernel
theorem dX12_copyRow_1 : decode cX12_copyRow 1 = .ok (.iconst 0, 1) := by decide +kernel
theorem dX12_copyRow_2 : decode cX12_copyRow 2 = .ok (.aload_n 1, 1) := by decide +kernel
theorem dX12_copyRow_3 : decode cX12_copyRow 3 = .ok (.iconst 0, 1) := by decide +kernel
theorem dX12_copyRow_4 : decode cX12_copyRow 4 = .ok (.aload_n 0, 1) := by decide +kernel
theorem dX12_copyRow_5 : decode cX12_copyRow 5 = .ok (.arraylength, 1) := by decide +kernel
theorem dX12_copyRow_6 : decode cX12_copyRow 6 = .ok (.aload_n 1, 1) := by decide +kernel
theorem dX12_copyRow_7 : decode cX12_copyRow 7 = .ok (.arraylength, 1) := by decide +kernel
theorem dX12_copyRow_8 : decode cX12_copyRow 8 = .ok (.invokestatic 381, 3) := by decide +kernel
theorem dX12_copyRow_11 : decode cX12_copyRow 11 = .ok (.invokestatic 386, 3) := by decide +kernel
theorem dX12_copyRow_14 : decode cX12_copyRow 14 = .ok (.return_, 1) := by decide +kernel
theorem BX12_copyRow_0 {d bc bs : Nat} {h : aH} {n : Nat} {Q : aQ} {ar0 ar1 : Nat} {w1 w5 : List Int} (h2 : h ar0 = cI w1) (y3 : w1.length < 2147483648) (z4 : ar0 ≠ 0) (h6 : h ar1 = cI w5) (y7 : w5.length < 2147483648) (z8 : ar1 ≠ 0) (k : Rn d 0 0 mJ9_min_7cf53 0 [some (vI (w1.length : Int)), some (vI (w5.length : Int))] [] h n (fun v h1 n1 => Rn (d + 1) bc bs mX12_copyRow 11 [some (vR (some ar0)), some (vR (some ar1))] (v.toList ++ [vI 0, vR (some ar1), vI 0, vR (some ar0)]) h1 n1 Q)) : Rn (d + 1) (bc) (bs) mX12_copyRow 0 [some (vR (some ar0)), some (vR (some ar1))] [] h n Q := by
  refine Rn_aload_n dX12_copyRow_0 rfl rfl rfl ?_
  refine Rn_iconst dX12_copyRow_1 rfl ?_
  refine Rn_aload_n dX12_copyRow_2 rfl rfl rfl ?_
  refine Rn_iconst dX12_copyRow_3 rfl ?_
  refine Rn_aload_n dX12_copyRow_4 rfl rfl rfl ?_
  refine Rn_alenI dX12_copyRow_5 z4 h2 y3 ?_
  refine Rn_aload_n dX12_copyRow_6 rfl rfl rfl ?_
  refine Rn_alenI dX12_copyRow_7 z8 h6 y7 ?_
  exact Rn_callS (avs := [vI (w1.length : Int), vI (w5.length : Int)]) (st := [vI 0, vR (some ar1), vI 0, vR (some ar0)]) (bc1 := 0) (bs1 := 0) (bc2 := bc) (bs2 := bs) fx_J9_min_7cf53 dX12_copyRow_8 (Or.inl wd_804) wd_559 rfl (Nat.le_of_ble_eq_true rfl) (Nat.le_of_ble_eq_true rfl) (by omega) (by omega) (ls1 := [some (vI (w1.length : Int)), some (vI (w5.length : Int))]) rfl k
theorem BX12_copyRow_11 {d bc bs : Nat} {h : aH} {n : Nat} {Q : aQ} {r0 r1 : Option Nat} {aq0 aq2 : Nat} {s1 s3 s4 : Int} {w1 w3 : List Int} (h2 : h aq0 = cI w1) (h4 : h aq2 = cI w3) (i5 : 0 ≤ s1) (i6 : 0 ≤ s3) (i7 : 0 ≤ s4) (j8 : s1 + s4 ≤ w1.length) (j9 : s3 + s4 ≤ w3.length) (z10 : aq0 ≠ 0) (z11 : aq2 ≠ 0) (k : Rn (d + 1) bc bs mX12_copyRow 14 [some (vR r0), some (vR r1)] [] (up h aq2 (cI (aCpy w1 w3 (s1 : Int).toNat (s3 : Int).toNat (s4 : Int).toNat))) n Q) : Rn (d + 1) (bc) (bs) mX12_copyRow 11 [some (vR r0), some (vR r1)] [vI s4, vI s3, vR (some aq2), vI s1, vR (some aq0)] h n Q := by
  refine Rn_arraycopy dX12_copyRow_11 wd_805 wd_732 wd_731 wd_141 z10 z11 h2 h4 i5 i6 i7 j8 j9 (Nat.le_of_ble_eq_true rfl) ?_
  exact k
theorem BX12_copyRow_14 {d bc bs : Nat} {h : aH} {n : Nat} {Q : aQ} {r0 r1 : Option Nat} (k : Q none h n) : Rn d (bc) (bs) mX12_copyRow 14 [some (vR r0), some (vR r1)] [] h n Q := by
  exact Rn_return rfl dX12_copyRow_14 k
theorem dX12_sharedDivisor_0 : decode cX12_sharedDivisor 0 = .ok (.lload_n 0, 1) := by decide +kernel
theorem dX12_sharedDivisor_1 : decode cX12_sharedDivisor 1 = .ok (.lstore 4, 2) := by decide +kernel
theorem dX12_sharedDivisor_3 : decode cX12_sharedDivisor 3 = .ok (.lload_n 2, 1) := by decide +kernel
theorem dX12_sharedDivisor_4 : decode cX12_sharedDivisor 4 = .ok (.lstore 6, 2) := by decide +kernel
theorem dX12_sharedDivisor_6 : decode cX12_sharedDivisor 6 = .ok (.iconst 0, 1) := by decide +kernel
theorem dX12_sharedDivisor_7 : decode cX12_sharedDivisor 7 = .ok (.istore 8, 2) := by decide +kernel
theorem dX12_sharedDivisor_9 : decode cX12_sharedDivisor 9 = .ok (.iload 8, 2) := by decide +kernel
theorem dX12_sharedDivisor_11 : decode cX12_sharedDivisor 11 = .ok (.bipush 100, 2) := by decide +kernel
theorem dX12_sharedDivisor_13 : decode cX12_sharedDivisor 13 = .ok (.if_icmp .ge 31, 3) := by decide +kernel
theorem dX12_sharedDivisor_16 : decode cX12_sharedDivisor 16 = .ok (.lload 6, 2) := by decide +kernel
theorem dX12_sharedDivisor_18 : decode cX12_sharedDivisor 18 = .ok (.lconst 0, 1) := by decide +kernel
theorem dX12_sharedDivisor_19 : decode cX12_sharedDivisor 19 = .ok (.lcmp, 1) := by decide +kernel
theorem dX12_sharedDivisor_20 : decode cX12_sharedDivisor 20 = .ok (.ifCond .eq 24, 3) := by decide +kernel
theorem dX12_sharedDivisor_23 : decode cX12_sharedDivisor 23 = .ok (.lload 4, 2) := by decide +kernel
theorem dX12_sharedDivisor_25 : decode cX12_sharedDivisor 25 = .ok (.lload 6, 2) := by decide +kernel
theorem dX12_sharedDivisor_27 : decode cX12_sharedDivisor 27 = .ok (.lrem, 1) := by decide +kernel
theorem dX12_sharedDivisor_28 : decode cX12_sharedDivisor 28 = .ok (.lstore 9, 2) := by decide +kernel
theorem dX12_sharedDivisor_30 : decode cX12_sharedDivisor 30 = .ok (.lload 6, 2) := by decide +kernel
theorem dX12_sharedDivisor_32 : decode cX12_sharedDivisor 32 = .ok (.lstore 4, 2) := by decide +kernel
theorem dX12_sharedDivisor_34 : decode cX12_sharedDivisor 34 = .ok (.lload 9, 2) := by decide +kernel
theorem dX12_sharedDivisor_36 : decode cX12_sharedDivisor 36 = .ok (.lstore 6, 2) := by decide +kernel
theorem dX12_sharedDivisor_38 : decode cX12_sharedDivisor 38 = .ok (.iinc 8 1, 3) := by decide +kernel
theorem dX12_sharedDivisor_41 : decode cX12_sharedDivisor 41 = .ok (.goto (-32), 3) := by decide +kernel
theorem dX12_sharedDivisor_44 : decode cX12_sharedDivisor 44 = .ok (.lload 4, 2) := by decide +kernel
theorem dX12_sharedDivisor_46 : decode cX12_sharedDivisor 46 = .ok (.lreturn, 1) := by decide +kernel
theorem BX12_sharedDivisor_0 {d bc bs : Nat} {h : aH} {n : Nat} {Q : aQ} {x0 x2 : Int} {l4 l5 l6 l7 l8 l9 l10 : Option aV} (k : Rn d bc bs mX12_sharedDivisor 9 [some (vL x0), none, some (vL x2), none, some (vL x0), none, some (vL x2), none, some (vI 0), l9, l10] [] h n Q) : Rn d (bc) (bs) mX12_sharedDivisor 0 [some (vL x0), none, some (vL x2), none, l4, l5, l6, l7, l8, l9, l10] [] h n Q := by
  refine Rn_lload_n dX12_sharedDivisor_0 rfl rfl ?_
  refine Rn_lstore dX12_sharedDivisor_1 (Nat.le_of_ble_eq_true rfl) rfl rfl ?_
  refine Rn_lload_n dX12_sharedDivisor_3 rfl rfl ?_
  refine Rn_lstore dX12_sharedDivisor_4 (Nat.le_of_ble_eq_true rfl) rfl rfl ?_
  refine Rn_iconst dX12_sharedDivisor_6 rfl ?_
  refine Rn_istore dX12_sharedDivisor_7 (Nat.le_of_ble_eq_true rfl) rfl rfl ?_
  exact k
theorem BX12_sharedDivisor_9 {d bc bs : Nat} {h : aH} {n : Nat} {Q : aQ} {x0 x2 x4 x6 x8 : Int} {l9 l10 : Option aV} (kt : 100 ≤ x8 → Rn d bc bs mX12_sharedDivisor 44 [some (vL x0), none, some (vL x2), none, some (vL x4), none, some (vL x6), none, some (vI x8), l9, l10] [] h n Q) (kf : x8 < 100 → Rn d bc bs mX12_sharedDivisor 16 [some (vL x0), none, some (vL x2), none, some (vL x4), none, some (vL x6), none, some (vI x8), l9, l10] [] h n Q) : Rn d (bc) (bs) mX12_sharedDivisor 9 [some (vL x0), none, some (vL x2), none, some (vL x4), none, some (vL x6), none, some (vI x8), l9, l10] [] h n Q := by
  refine Rn_iload dX12_sharedDivisor_9 rfl ?_
  refine Rn_bipush dX12_sharedDivisor_11 rfl ?_
  refine Rn_icmpge (tgt := 44) dX12_sharedDivisor_13 rfl ?_ ?_
  · exact kt
  · exact kf
theorem BX12_sharedDivisor_16 {d bc bs : Nat} {h : aH} {n : Nat} {Q : aQ} {x0 x2 x4 x6 x8 : Int} {l9 l10 : Option aV} (kt : x6 = 0 → Rn d bc bs mX12_sharedDivisor 44 [some (vL x0), none, some (vL x2), none, some (vL x4), none, some (vL x6), none, some (vI x8), l9, l10] [] h n Q) (kf : x6 ≠ 0 → Rn d bc bs mX12_sharedDivisor 23 [some (vL x0), none, some (vL x2), none, some (vL x4), none, some (vL x6), none, some (vI x8), l9, l10] [] h n Q) : Rn d (bc) (bs) mX12_sharedDivisor 16 [some (vL x0), none, some (vL x2), none, some (vL x4), none, some (vL x6), none, some (vI x8), l9, l10] [] h n Q := by
  refine Rn_lload dX12_sharedDivisor_16 rfl ?_
  refine Rn_lconst (x := 0) dX12_sharedDivisor_18 rfl ?_
  refine Rn_lcmp dX12_sharedDivisor_19 ?_
  refine Rn_ifeq (tgt := 44) dX12_sharedDivisor_20 rfl ?_ ?_
  · exact fun q => kt (lc_eq q)
  · exact fun q => kf (lc_ne q)
theorem BX12_sharedDivisor_23 {d bc bs : Nat} {h : aH} {n : Nat} {Q : aQ} {x0 x2 x4 x6 x8 : Int} {l9 l10 : Option aV} (e1 : ¬ x6 = 0) (b2 : -2147483648 ≤ x8 + 1 ∧ x8 + 1 < 2147483648) (k : Rn d bc bs mX12_sharedDivisor 9 [some (vL x0), none, some (vL x2), none, some (vL x6), none, some (vL (Int.tmod x4 x6)), none, some (vI (x8 + 1)), some (vL (Int.tmod x4 x6)), none] [] h n Q) : Rn d (bc) (bs) mX12_sharedDivisor 23 [some (vL x0), none, some (vL x2), none, some (vL x4), none, some (vL x6), none, some (vI x8), l9, l10] [] h n Q := by
  refine Rn_lload dX12_sharedDivisor_23 rfl ?_
  refine Rn_lload dX12_sharedDivisor_25 rfl ?_
  refine Rn_lrem dX12_sharedDivisor_27 e1 ?_
  refine Rn_lstore dX12_sharedDivisor_28 (Nat.le_of_ble_eq_true rfl) rfl rfl ?_
  refine Rn_lload dX12_sharedDivisor_30 rfl ?_
  refine Rn_lstore dX12_sharedDivisor_32 (Nat.le_of_ble_eq_true rfl) rfl rfl ?_
  refine Rn_lload dX12_sharedDivisor_34 rfl ?_
  refine Rn_lstore dX12_sharedDivisor_36 (Nat.le_of_ble_eq_true rfl) rfl rfl ?_
  refine Rn_iinc dX12_sharedDivisor_38 rfl (Nat.le_of_ble_eq_true rfl) rfl rfl rfl ?_
  rw [w32_id b2.1 b2.2]
  refine Rn_goto (tgt := 9) dX12_sharedDivisor_41 rfl ?_
  exact k
theorem BX12_sharedDivisor_44 {d bc bs : Nat} {h : aH} {n : Nat} {Q : aQ} {x0 x2 x4 x6 x8 : Int} {l9 l10 : Option aV} (k : Q (some (vL x4)) h n) : Rn d (bc) (bs) mX12_sharedDivisor 44 [some (vL x0), none, some (vL x2), none, some (vL x4), none, some (vL x6), none, some (vI x8), l9, l10] [] h n Q := by
  refine Rn_lload dX12_sharedDivisor_44 rfl ?_
  exact Rn_lreturn rfl dX12_sharedDivisor_46 k
