theorem dX3_init_0 : decode cX3_init 0 = .ok (.aload_n 0, 1) := by decide +kernel
theorem dX3_init_1 : decode cX3_init 1 = .ok (.invokespecial 3, 3) := by decide +kernel
theorem dX3_init_4 : decode cX3_init 4 = .ok (.aload_n 0, 1) := by decide +kernel
theorem dX3_init_5 : decode cX3_init 5 = .ok (.bipush 32, 2) := by decide +kernel
theorem dX3_init_7 : decode cX3_init 7 = .ok (.newarray .int, 2) := by decide +kernel
theorem dX3_init_9 : decode cX3_init 9 = .ok (.putfield 11, 3) := by decide +kernel
theorem dX3_init_12 : decode cX3_init 12 = .ok (.aload_n 0, 1) := by decide +kernel
theorem dX3_init_13 : decode cX3_init 13 = .ok (.bipush 10, 2) := by decide +kernel
theorem dX3_init_15 : decode cX3_init 15 = .ok (.newarray .long, 2) := by decide +kernel
theorem dX3_init_17 : decode cX3_init 17 = .ok (.putfield 15, 3) := by decide +kernel
theorem dX3_init_20 : decode cX3_init 20 = .ok (.aload_n 0, 1) := by decide +kernel
theorem dX3_init_21 : decode cX3_init 21 = .ok (.bipush 8, 2) := by decide +kernel
theorem dX3_init_23 : decode cX3_init 23 = .ok (.newarray .int, 2) := by decide +kernel
theorem dX3_init_25 : decode cX3_init 25 = .ok (.putfield 19, 3) := by decide +kernel
theorem dX3_init_28 : decode cX3_init 28 = .ok (.aload_n 0, 1) := by decide +kernel
theorem dX3_init_29 : decode cX3_init 29 = .ok (.sipush 256, 3) := by decide +kernel
theorem dX3_init_32 : decode cX3_init 32 = .ok (.newarray .long, 2) := by decide +kernel
theorem dX3_init_34 : decode cX3_init 34 = .ok (.putfield 22, 3) := by decide +kernel
theorem dX3_init_37 : decode cX3_init 37 = .ok (.aload_n 0, 1) := by decide +kernel
theorem dX3_init_38 : decode cX3_init 38 = .ok (.ldc 25, 2) := by decide +kernel
theorem dX3_init_40 : decode cX3_init 40 = .ok (.putfield 26, 3) := by decide +kernel
theorem dX3_init_43 : decode cX3_init 43 = .ok (.aload_n 0, 1) := by decide +kernel
theorem dX3_init_44 : decode cX3_init 44 = .ok (.iconst 0, 1) := by decide +kernel
theorem dX3_init_45 : decode cX3_init 45 = .ok (.putfield 30, 3) := by decide +kernel
theorem dX3_init_48 : decode cX3_init 48 = .ok (.return_, 1) := by decide +kernel
theorem BX3_init_0 {d bc bs : Nat} {h : aH} {n : Nat} {Q : aQ} {ar0 : Nat} (k : Rn (d + 1) bc bs mX3_init 9 [some (vR (some ar0))] [vR (some n), vR (some ar0)] (up h n (cI (List.replicate 32 0))) (n + 1) Q) : Rn (d + 1) (bc + 1) (bs + 32) mX3_init 0 [some (vR (some ar0))] [] h n Q := by
  refine Rn_aload_n dX3_init_0 rfl rfl rfl ?_
  refine Rn_objInit dX3_init_1 wd_436 wd_149 wd_150 (Nat.le_of_ble_eq_true rfl) ?_
  refine Rn_aload_n dX3_init_4 rfl rfl rfl ?_
  refine Rn_bipush dX3_init_5 rfl ?_
  refine Rn_newarrI (N := 32) (bc := bc) (bs := bs) (by omega) (by omega) wd_181 dX3_init_7 (by decide) ?_
  exact k
theorem BX3_init_9 {d bc bs : Nat} {h : aH} {n : Nat} {Q : aQ} {r0 q1 : Option Nat} {aq0 : Nat} {f1 : List aV} (h2 : h aq0 = cO 3 f1) (m3 : 0 < f1.length) (k : Rn d bc bs mX3_init 12 [some (vR r0)] [] (up h aq0 (cO 3 (f1.set 0 (vR q1)))) n Q) : Rn d (bc) (bs) mX3_init 9 [some (vR r0)] [vR q1, vR (some aq0)] h n Q := by
  refine Rn_putfield (ci := 3) (k := 0) dX3_init_9 rfl in_3 tyX3_ok nmX3 (Nat.le_of_ble_eq_true rfl) wd_438 rfl (Or.inr ⟨rfl, rfl⟩) trivial m3 h2 ?_
  exact k
theorem BX3_init_12 {d bc bs : Nat} {h : aH} {n : Nat} {Q : aQ} {r0 : Option Nat} (k : Rn d bc bs mX3_init 17 [some (vR r0)] [vR (some n), vR r0] (up h n (cJ (List.replicate 10 0))) (n + 1) Q) : Rn d (bc + 1) (bs + 10) mX3_init 12 [some (vR r0)] [] h n Q := by
  refine Rn_aload_n dX3_init_12 rfl rfl rfl ?_
  refine Rn_bipush dX3_init_13 rfl ?_
  refine Rn_newarrJ (N := 10) (bc := bc) (bs := bs) (by omega) (by omega) wd_457 dX3_init_15 (by decide) ?_
  exact k
theorem BX3_init_17 {d bc bs : Nat} {h : aH} {n : Nat} {Q : aQ} {r0 q1 : Option Nat} {aq0 : Nat} {f1 : List aV} (h2 : h aq0 = cO 3 f1) (m3 : 1 < f1.length) (k : Rn d bc bs mX3_init 20 [some (vR r0)] [] (up h aq0 (cO 3 (f1.set 1 (vR q1)))) n Q) : Rn d (bc) (bs) mX3_init 17 [some (vR r0)] [vR q1, vR (some aq0)] h n Q := by
  refine Rn_putfield (ci := 3) (k := 1) dX3_init_17 rfl in_3 tyX3_ok nmX3 (Nat.le_of_ble_eq_true rfl) wd_439 rfl (Or.inr ⟨rfl, rfl⟩) trivial m3 h2 ?_
  exact k
theorem BX3_init_20 {d bc bs : Nat} {h : aH} {n : Nat} {Q : aQ} {r0 : Option Nat} (k : Rn d bc bs mX3_init 25 [some (vR r0)] [vR (some n), vR r0] (up h n (cI (List.replicate 8 0))) (n + 1) Q) : Rn d (bc + 1) (bs + 8) mX3_init 20 [some (vR r0)] [] h n Q := by
  refine Rn_aload_n dX3_init_20 rfl rfl rfl ?_
  refine Rn_bipush dX3_init_21 rfl ?_
  refine Rn_newarrI (N := 8) (bc := bc) (bs := bs) (by omega) (by omega) wd_181 dX3_init_23 (by decide) ?_
  exact k
theorem BX3_init_25 {d bc bs : Nat} {h : aH} {n : Nat} {Q : aQ} {r0 q1 : Option Nat} {aq0 : Nat} {f1 : List aV} (h2 : h aq0 = cO 3 f1) (m3 : 2 < f1.length) (k : Rn d bc bs mX3_init 28 [some (vR r0)] [] (up h aq0 (cO 3 (f1.set 2 (vR q1)))) n Q) : Rn d (bc) (bs) mX3_init 25 [some (vR r0)] [vR q1, vR (some aq0)] h n Q := by
  refine Rn_putfield (ci := 3) (k := 2) dX3_init_25 rfl in_3 tyX3_ok nmX3 (Nat.le_of_ble_eq_true rfl) wd_440 rfl (Or.inr ⟨rfl, rfl⟩) trivial m3 h2 ?_
  exact k
theorem BX3_init_28 {d bc bs : Nat} {h : aH} {n : Nat} {Q : aQ} {r0 : Option Nat} (k : Rn d bc bs mX3_init 34 [some (vR r0)] [vR (some n), vR r0] (up h n (cJ (List.replicate 256 0))) (n + 1) Q) : Rn d (bc + 1) (bs + 256) mX3_init 28 [some (vR r0)] [] h n Q := by
  refine Rn_aload_n dX3_init_28 rfl rfl rfl ?_
  refine Rn_sipush dX3_init_29 rfl ?_
  refine Rn_newarrJ (N := 256) (bc := bc) (bs := bs) (by omega) (by omega) wd_457 dX3_init_32 (by decide) ?_
  exact k
theorem BX3_init_34 {d bc bs : Nat} {h : aH} {n : Nat} {Q : aQ} {r0 q1 : Option Nat} {aq0 : Nat} {f1 : List aV} (h2 : h aq0 = cO 3 f1) (m3 : 3 < f1.length) (k : Rn d bc bs mX3_init 37 [some (vR r0)] [] (up h aq0 (cO 3 (f1.set 3 (vR q1)))) n Q) : Rn d (bc) (bs) mX3_init 34 [some (vR r0)] [vR q1, vR (some aq0)] h n Q := by
  refine Rn_putfield (ci := 3) (k := 3) dX3_init_34 rfl in_3 tyX3_ok nmX3 (Nat.le_of_ble_eq_true rfl) wd_441 rfl (Or.inr ⟨rfl, rfl⟩) trivial m3 h2 ?_
  exact k
theorem BX3_init_37 {d bc bs : Nat} {h : aH} {n : Nat} {Q : aQ} {ar0 : Nat} {f1 : List aV} (h2 : h ar0 = cO 3 f1) (m3 : 4 < f1.length) (k : Rn d bc bs mX3_init 43 [some (vR (some ar0))] [] (up h ar0 (cO 3 (f1.set 4 (vI 1000000)))) n Q) : Rn d (bc) (bs) mX3_init 37 [some (vR (some ar0))] [] h n Q := by
  refine Rn_aload_n dX3_init_37 rfl rfl rfl ?_
  refine Rn_ldc dX3_init_38 wd_437 rfl ?_
  refine Rn_putfield (ci := 3) (k := 4) dX3_init_40 rfl in_3 tyX3_ok nmX3 (Nat.le_of_ble_eq_true rfl) wd_442 rfl (Or.inl rfl) trivial m3 h2 ?_
  exact k
theorem BX3_init_43 {d bc bs : Nat} {h : aH} {n : Nat} {Q : aQ} {ar0 : Nat} {f1 : List aV} (h2 : h ar0 = cO 3 f1) (m3 : 5 < f1.length) (k : Rn d bc bs mX3_init 48 [some (vR (some ar0))] [] (up h ar0 (cO 3 (f1.set 5 (vI 0)))) n Q) : Rn d (bc) (bs) mX3_init 43 [some (vR (some ar0))] [] h n Q := by
  refine Rn_aload_n dX3_init_43 rfl rfl rfl ?_
  refine Rn_iconst dX3_init_44 rfl ?_
  refine Rn_putfield (ci := 3) (k := 5) dX3_init_45 rfl in_3 tyX3_ok nmX3 (Nat.le_of_ble_eq_true rfl) wd_443 rfl (Or.inl rfl) (show (0 : Int) = 0 ∨ (0 : Int) = 1 by decide) m3 h2 ?_
  exact k
theorem BX3_init_48 {d bc bs : Nat} {h : aH} {n : Nat} {Q : aQ} {r0 : Option Nat} (k : Q none h n) : Rn d (bc) (bs) mX3_init 48 [some (vR r0)] [] h n Q := by
  exact Rn_return rfl dX3_init_48 k
theorem dX3_isWord_0 : decode cX3_isWord 0 = .ok (.iload_n 1, 1) := by decide +kernel
theorem dX3_isWord_1 : decode cX3_isWord 1 = .ok (.iconst 1, 1) := by decide +kernel
theorem dX3_isWord_2 : decode cX3_isWord 2 = .ok (.sipush 9999, 3) := by decide +kernel
theorem dX3_isWord_5 : decode cX3_isWord 5 = .ok (.invokestatic 34, 3) := by decide +kernel
theorem dX3_isWord_8 : decode cX3_isWord 8 = .ok (.ifCond .ne 5, 3) := by decide +kernel
theorem dX3_isWord_11 : decode cX3_isWord 11 = .ok (.iconst 0, 1) := by decide +kernel
theorem dX3_isWord_12 : decode cX3_isWord 12 = .ok (.ireturn, 1) := by decide +kernel
theorem dX3_isWord_13 : decode cX3_isWord 13 = .ok (.iload_n 1, 1) := by decide +kernel
theorem dX3_isWord_14 : decode cX3_isWord 14 = .ok (.istore_n 2, 1) := by decide +kernel
theorem dX3_isWord_15 : decode cX3_isWord 15 = .ok (.iconst 0, 1) := by decide +kernel
theorem dX3_isWord_16 : decode cX3_isWord 16 = .ok (.istore_n 3, 1) := by decide +kernel
theorem dX3_isWord_17 : decode cX3_isWord 17 = .ok (.iload_n 3, 1) := by decide +kernel
theorem dX3_isWord_18 : decode cX3_isWord 18 = .ok (.iconst 4, 1) := by decide +kernel
theorem dX3_isWord_19 : decode cX3_isWord 19 = .ok (.if_icmp .ge 27, 3) := by decide +kernel
theorem dX3_isWord_22 : decode cX3_isWord 22 = .ok (.iload_n 2, 1) := by decide +kernel
theorem dX3_isWord_23 : decode cX3_isWord 23 = .ok (.ifCond .le 23, 3) := by decide +kernel
theorem dX3_isWord_26 : decode cX3_isWord 26 = .ok (.iload_n 2, 1) := by decide +kernel
theorem dX3_isWord_27 : decode cX3_isWord 27 = .ok (.bipush 10, 2) := by decide +kernel
theorem dX3_isWord_29 : decode cX3_isWord 29 = .ok (.irem, 1) := by decide +kernel
theorem dX3_isWord_30 : decode cX3_isWord 30 = .ok (.ifCond .ne 5, 3) := by decide +kernel
theorem dX3_isWord_33 : decode cX3_isWord 33 = .ok (.iconst 0, 1) := by decide +kernel
theorem dX3_isWord_34 : decode cX3_isWord 34 = .ok (.ireturn, 1) := by decide +kernel
theorem dX3_isWord_35 : decode cX3_isWord 35 = .ok (.iload_n 2, 1) := by decide +kernel
theorem dX3_isWord_36 : decode cX3_isWord 36 = .ok (.bipush 10, 2) := by decide +kernel
theorem dX3_isWord_38 : decode cX3_isWord 38 = .ok (.idiv, 1) := by decide +kernel
theorem dX3_isWord_39 : decode cX3_isWord 39 = .ok (.istore_n 2, 1) := by decide +kernel
theorem dX3_isWord_40 : decode cX3_isWord 40 = .ok (.iinc 3 1, 3) := by decide +kernel
theorem dX3_isWord_43 : decode cX3_isWord 43 = .ok (.goto (-26), 3) := by decide +kernel
theorem dX3_isWord_46 : decode cX3_isWord 46 = .ok (.iconst 1, 1) := by decide +kernel
theorem dX3_isWord_47 : decode cX3_isWord 47 = .ok (.ireturn, 1) := by decide +kernel
theorem BX3_isWord_0 {d bc bs : Nat} {h : aH} {n : Nat} {Q : aQ} {r0 : Option Nat} {x1 : Int} {l2 l3 : Option aV} (k : Rn d 0 0 mX12_within 0 [some (vI x1), some (vI 1), some (vI 9999)] [] h n (fun v h1 n1 => Rn (d + 1) bc bs mX3_isWord 8 [some (vR r0), some (vI x1), l2, l3] (v.toList ++ []) h1 n1 Q)) : Rn (d + 1) (bc) (bs) mX3_isWord 0 [some (vR r0), some (vI x1), l2, l3] [] h n Q := by
  refine Rn_iload_n dX3_isWord_0 rfl rfl ?_
  refine Rn_iconst dX3_isWord_1 rfl ?_
  refine Rn_sipush dX3_isWord_2 rfl ?_
  exact Rn_callS (avs := [vI x1, vI 1, vI 9999]) (st := []) (bc1 := 0) (bs1 := 0) (bc2 := bc) (bs2 := bs) fx_X12_within dX3_isWord_5 (Or.inr ⟨"BottledPost", List.mem_of_getElem? (i := 26) rfl⟩) wd_503 rfl (Nat.le_of_ble_eq_true rfl) (Nat.le_of_ble_eq_true rfl) (by omega) (by omega) (ls1 := [some (vI x1), some (vI 1), some (vI 9999)]) rfl k
theorem BX3_isWord_8 {d bc bs : Nat} {h : aH} {n : Nat} {Q : aQ} {r0 : Option Nat} {x1 s0 : Int} {l2 l3 : Option aV} (kt : s0 ≠ 0 → Rn d bc bs mX3_isWord 13 [some (vR r0), some (vI x1), l2, l3] [] h n Q) (kf : s0 = 0 → Rn d bc bs mX3_isWord 11 [some (vR r0), some (vI x1), l2, l3] [] h n Q) : Rn d (bc) (bs) mX3_isWord 8 [some (vR r0), some (vI x1), l2, l3] [vI s0] h n Q := by
  refine Rn_ifne (tgt := 13) dX3_isWord_8 rfl ?_ ?_
  · exact kt
  · exact kf
theorem BX3_isWord_11 {d bc bs : Nat} {h : aH} {n : Nat} {Q : aQ} {r0 : Option Nat} {x1 : Int} {l2 l3 : Option aV} (k : Q (some (vI 0)) h n) : Rn d (bc) (bs) mX3_isWord 11 [some (vR r0), some (vI x1), l2, l3] [] h n Q := by
  refine Rn_iconst dX3_isWord_11 rfl ?_
  exact Rn_zreturn rfl dX3_isWord_12 (by decide) k
theorem BX3_isWord_13 {d bc bs : Nat} {h : aH} {n : Nat} {Q : aQ} {r0 : Option Nat} {x1 : Int} {l2 l3 : Option aV} (k : Rn d bc bs mX3_isWord 17 [some (vR r0), some (vI x1), some (vI x1), some (vI 0)] [] h n Q) : Rn d (bc) (bs) mX3_isWord 13 [some (vR r0), some (vI x1), l2, l3] [] h n Q := by
  refine Rn_iload_n dX3_isWord_13 rfl rfl ?_
  refine Rn_istore_n dX3_isWord_14 rfl (Nat.le_of_ble_eq_true rfl) rfl rfl ?_
  refine Rn_iconst dX3_isWord_15 rfl ?_
  refine Rn_istore_n dX3_isWord_16 rfl (Nat.le_of_ble_eq_true rfl) rfl rfl ?_
  exact k
theorem BX3_isWord_17 {d bc bs : Nat} {h : aH} {n : Nat} {Q : aQ} {r0 : Option Nat} {x1 x2 x3 : Int} (kt : 4 ≤ x3 → Rn d bc bs mX3_isWord 46 [some (vR r0), some (vI x1), some (vI x2), some (vI x3)] [] h n Q) (kf : x3 < 4 → Rn d bc bs mX3_isWord 22 [some (vR r0), some (vI x1), some (vI x2), some (vI x3)] [] h n Q) : Rn d (bc) (bs) mX3_isWord 17 [some (vR r0), some (vI x1), some (vI x2), some (vI x3)] [] h n Q := by
  refine Rn_iload_n dX3_isWord_17 rfl rfl ?_
  refine Rn_iconst dX3_isWord_18 rfl ?_
  refine Rn_icmpge (tgt := 46) dX3_isWord_19 rfl ?_ ?_
  · exact kt
  · exact kf
theorem BX3_isWord_22 {d bc bs : Nat} {h : aH} {n : Nat} {Q : aQ} {r0 : Option Nat} {x1 x2 x3 : Int} (kt : x2 ≤ 0 → Rn d bc bs mX3_isWord 46 [some (vR r0), some (vI x1), some (vI x2), some (vI x3)] [] h n Q) (kf : 0 < x2 → Rn d bc bs mX3_isWord 26 [some (vR r0), some (vI x1), some (vI x2), some (vI x3)] [] h n Q) : Rn d (bc) (bs) mX3_isWord 22 [some (vR r0), some (vI x1), some (vI x2), some (vI x3)] [] h n Q := by
  refine Rn_iload_n dX3_isWord_22 rfl rfl ?_
  refine Rn_ifle (tgt := 46) dX3_isWord_23 rfl ?_ ?_
  · exact kt
  · exact kf
theorem BX3_isWord_26 {d bc bs : Nat} {h : aH} {n : Nat} {Q : aQ} {r0 : Option Nat} {x1 x2 x3 : Int} (b1 : 0 ≤ x2) (kt : (x2 % 10) ≠ 0 → Rn d bc bs mX3_isWord 35 [some (vR r0), some (vI x1), some (vI x2), some (vI x3)] [] h n Q) (kf : (x2 % 10) = 0 → Rn d bc bs mX3_isWord 33 [some (vR r0), some (vI x1), some (vI x2), some (vI x3)] [] h n Q) : Rn d (bc) (bs) mX3_isWord 26 [some (vR r0), some (vI x1), some (vI x2), some (vI x3)] [] h n Q := by
  refine Rn_iload_n dX3_isWord_26 rfl rfl ?_
  refine Rn_bipush dX3_isWord_27 rfl ?_
  refine Rn_irem dX3_isWord_29 (by decide) ?_
  rw [Int.tmod_eq_emod_of_nonneg b1]
  refine Rn_ifne (tgt := 35) dX3_isWord_30 rfl ?_ ?_
  · exact kt
  · exact kf
theorem BX3_isWord_33 {d bc bs : Nat} {h : aH} {n : Nat} {Q : aQ} {r0 : Option Nat} {x1 x2 x3 : Int} (k : Q (some (vI 0)) h n) : Rn d (bc) (bs) mX3_isWord 33 [some (vR r0), some (vI x1), some (vI x2), some (vI x3)] [] h n Q := by
  refine Rn_iconst dX3_isWord_33 rfl ?_
  exact Rn_zreturn rfl dX3_isWord_34 (by decide) k
theorem BX3_isWord_35 {d bc bs : Nat} {h : aH} {n : Nat} {Q : aQ} {r0 : Option Nat} {x1 x2 x3 : Int} (b1 : 0 ≤ x2) (b2 : -2147483648 ≤ x2 / 10 ∧ x2 / 10 < 2147483648) (b3 : -2147483648 ≤ x3 + 1 ∧ x3 + 1 < 2147483648) (k : Rn d bc bs mX3_isWord 17 [some (vR r0), some (vI x1), some (vI (x2 / 10)), some (vI (x3 + 1))] [] h n Q) : Rn d (bc) (bs) mX3_isWord 35 [some (vR r0), some (vI x1), some (vI x2), some (vI x3)] [] h n Q := by
  refine Rn_iload_n dX3_isWord_35 rfl rfl ?_
  refine Rn_bipush dX3_isWord_36 rfl ?_
  refine Rn_idiv dX3_isWord_38 (by decide) ?_
  rw [Int.tdiv_eq_ediv_of_nonneg b1]
  rw [w32_id b2.1 b2.2]
  refine Rn_istore_n dX3_isWord_39 rfl (Nat.le_of_ble_eq_true rfl) rfl rfl ?_
  refine Rn_iinc dX3_isWord_40 rfl (Nat.le_of_ble_eq_true rfl) rfl rfl rfl ?_
  rw [w32_id b3.1 b3.2]
  refine Rn_goto (tgt := 17) dX3_isWord_43 rfl ?_
  exact k
theorem BX3_isWord_46 {d bc bs : Nat} {h : aH} {n : Nat} {Q : aQ} {r0 : Option Nat} {x1 x2 x3 : Int} (k : Q (some (vI 1)) h n) : Rn d (bc) (bs) mX3_isWord 46 [some (vR r0), some (vI x1), some (vI x2), some (vI x3)] [] h n Q := by
  refine Rn_iconst dX3_isWord_46 rfl ?_
  exact Rn_zreturn rfl dX3_isWord_47 (by decide) k
theorem dX3_tenTo_0 : decode cX3_tenTo 0 = .ok (.iconst 1, 1) := by decide +kernel
theorem dX3_tenTo_1 : decode cX3_tenTo 1 = .ok (.istore_n 1, 1) := by decide +kernel
theorem dX3_tenTo_2 : decode cX3_tenTo 2 = .ok (.iconst 0, 1) := by decide +kernel
theorem dX3_tenTo_3 : decode cX3_tenTo 3 = .ok (.istore_n 2, 1) := by decide +kernel
theorem dX3_tenTo_4 : decode cX3_tenTo 4 = .ok (.iload_n 2, 1) := by decide +kernel
theorem dX3_tenTo_5 : decode cX3_tenTo 5 = .ok (.iload_n 0, 1) := by decide +kernel
theorem dX3_tenTo_6 : decode cX3_tenTo 6 = .ok (.if_icmp .ge 20, 3) := by decide +kernel
theorem dX3_tenTo_9 : decode cX3_tenTo 9 = .ok (.iload_n 2, 1) := by decide +kernel
theorem dX3_tenTo_10 : decode cX3_tenTo 10 = .ok (.bipush 9, 2) := by decide +kernel
theorem dX3_tenTo_12 : decode cX3_tenTo 12 = .ok (.if_icmp .ge 14, 3) := by decide +kernel
theorem dX3_tenTo_15 : decode cX3_tenTo 15 = .ok (.iload_n 1, 1) := by decide +kernel
theorem dX3_tenTo_16 : decode cX3_tenTo 16 = .ok (.bipush 10, 2) := by decide +kernel
theorem dX3_tenTo_18 : decode cX3_tenTo 18 = .ok (.imul, 1) := by decide +kernel
theorem dX3_tenTo_19 : decode cX3_tenTo 19 = .ok (.istore_n 1, 1) := by decide +kernel
theorem dX3_tenTo_20 : decode cX3_tenTo 20 = .ok (.iinc 2 1, 3) := by decide +kernel
theorem dX3_tenTo_23 : decode cX3_tenTo 23 = .ok (.goto (-19), 3) := by decide +kernel
theorem dX3_tenTo_26 : decode cX3_tenTo 26 = .ok (.iload_n 1, 1) := by decide +kernel
theorem dX3_tenTo_27 : decode cX3_tenTo 27 = .ok (.ireturn, 1) := by decide +kernel
theorem BX3_tenTo_0 {d bc bs : Nat} {h : aH} {n : Nat} {Q : aQ} {x0 : Int} {l1 l2 : Option aV} (k : Rn d bc bs mX3_tenTo 4 [some (vI x0), some (vI 1), some (vI 0)] [] h n Q) : Rn d (bc) (bs) mX3_tenTo 0 [some (vI x0), l1, l2] [] h n Q := by
  refine Rn_iconst dX3_tenTo_0 rfl ?_
  refine Rn_istore_n dX3_tenTo_1 rfl (Nat.le_of_ble_eq_true rfl) rfl rfl ?_
  refine Rn_iconst dX3_tenTo_2 rfl ?_
  refine Rn_istore_n dX3_tenTo_3 rfl (Nat.le_of_ble_eq_true rfl) rfl rfl ?_
  exact k
theorem BX3_tenTo_4 {d bc bs : Nat} {h : aH} {n : Nat} {Q : aQ} {x0 x1 x2 : Int} (kt : x0 ≤ x2 → Rn d bc bs mX3_tenTo 26 [some (vI x0), some (vI x1), some (vI x2)] [] h n Q) (kf : x2 < x0 → Rn d bc bs mX3_tenTo 9 [some (vI x0), some (vI x1), some (vI x2)] [] h n Q) : Rn d (bc) (bs) mX3_tenTo 4 [some (vI x0), some (vI x1), some (vI x2)] [] h n Q := by
  refine Rn_iload_n dX3_tenTo_4 rfl rfl ?_
  refine Rn_iload_n dX3_tenTo_5 rfl rfl ?_
  refine Rn_icmpge (tgt := 26) dX3_tenTo_6 rfl ?_ ?_
  · exact kt
  · exact kf
theorem BX3_tenTo_9 {d bc bs : Nat} {h : aH} {n : Nat} {Q : aQ} {x0 x1 x2 : Int} (kt : 9 ≤ x2 → Rn d bc bs mX3_tenTo 26 [some (vI x0), some (vI x1), some (vI x2)] [] h n Q) (kf : x2 < 9 → Rn d bc bs mX3_tenTo 15 [some (vI x0), some (vI x1), some (vI x2)] [] h n Q) : Rn d (bc) (bs) mX3_tenTo 9 [some (vI x0), some (vI x1), some (vI x2)] [] h n Q := by
  refine Rn_iload_n dX3_tenTo_9 rfl rfl ?_
  refine Rn_bipush dX3_tenTo_10 rfl ?_
  refine Rn_icmpge (tgt := 26) dX3_tenTo_12 rfl ?_ ?_
  · exact kt
  · exact kf
theorem BX3_tenTo_15 {d bc bs : Nat} {h : aH} {n : Nat} {Q : aQ} {x0 x1 x2 : Int} (b1 : -2147483648 ≤ x1 * 10 ∧ x1 * 10 < 2147483648) (b2 : -2147483648 ≤ x2 + 1 ∧ x2 + 1 < 2147483648) (k : Rn d bc bs mX3_tenTo 4 [some (vI x0), some (vI (x1 * 10)), some (vI (x2 + 1))] [] h n Q) : Rn d (bc) (bs) mX3_tenTo 15 [some (vI x0), some (vI x1), some (vI x2)] [] h n Q := by
  refine Rn_iload_n dX3_tenTo_15 rfl rfl ?_
  refine Rn_bipush dX3_tenTo_16 rfl ?_
  refine Rn_imul dX3_tenTo_18 ?_
  rw [w32_id b1.1 b1.2]
  refine Rn_istore_n dX3_tenTo_19 rfl (Nat.le_of_ble_eq_true rfl) rfl rfl ?_
  refine Rn_iinc dX3_tenTo_20 rfl (Nat.le_of_ble_eq_true rfl) rfl rfl rfl ?_
  rw [w32_id b2.1 b2.2]
  refine Rn_goto (tgt := 4) dX3_tenTo_23 rfl ?_
  exact k
theorem BX3_tenTo_26 {d bc bs : Nat} {h : aH} {n : Nat} {Q : aQ} {x0 x1 x2 : Int} (k : Q (some (vI x1)) h n) : Rn d (bc) (bs) mX3_tenTo 26 [some (vI x0), some (vI x1), some (vI x2)] [] h n Q := by
  refine Rn_iload_n dX3_tenTo_26 rfl rfl ?_
  exact Rn_ireturn rfl dX3_tenTo_27 k
theorem dX3_withoutLast_0 : decode cX3_withoutLast 0 = .ok (.iload_n 1, 1) := by decide +kernel
theorem dX3_withoutLast_1 : decode cX3_withoutLast 1 = .ok (.invokestatic 38, 3) := by decide +kernel
theorem dX3_withoutLast_4 : decode cX3_withoutLast 4 = .ok (.istore_n 2, 1) := by decide +kernel
theorem dX3_withoutLast_5 : decode cX3_withoutLast 5 = .ok (.iload_n 2, 1) := by decide +kernel
theorem dX3_withoutLast_6 : decode cX3_withoutLast 6 = .ok (.ifCond .ne 7, 3) := by decide +kernel
theorem dX3_withoutLast_9 : decode cX3_withoutLast 9 = .ok (.iconst 0, 1) := by decide +kernel
theorem dX3_withoutLast_10 : decode cX3_withoutLast 10 = .ok (.goto 6, 3) := by decide +kernel
theorem dX3_withoutLast_13 : decode cX3_withoutLast 13 = .ok (.iload_n 0, 1) := by decide +kernel
theorem dX3_withoutLast_14 : decode cX3_withoutLast 14 = .ok (.iload_n 2, 1) := by decide +kernel
theorem dX3_withoutLast_15 : decode cX3_withoutLast 15 = .ok (.idiv, 1) := by decide +kernel
theorem dX3_withoutLast_16 : decode cX3_withoutLast 16 = .ok (.ireturn, 1) := by decide +kernel
theorem BX3_withoutLast_0 {d bc bs : Nat} {h : aH} {n : Nat} {Q : aQ} {x0 x1 : Int} {l2 : Option aV} (k : Rn d 0 0 mX3_tenTo 0 [some (vI x1), none, none] [] h n (fun v h1 n1 => Rn (d + 1) bc bs mX3_withoutLast 4 [some (vI x0), some (vI x1), l2] (v.toList ++ []) h1 n1 Q)) : Rn (d + 1) (bc) (bs) mX3_withoutLast 0 [some (vI x0), some (vI x1), l2] [] h n Q := by
  refine Rn_iload_n dX3_withoutLast_0 rfl rfl ?_
  exact Rn_callS (avs := [vI x1]) (st := []) (bc1 := 0) (bs1 := 0) (bc2 := bc) (bs2 := bs) fx_X3_tenTo dX3_withoutLast_1 (Or.inl wd_1194) wd_1195 rfl (Nat.le_of_ble_eq_true rfl) (Nat.le_of_ble_eq_true rfl) (by omega) (by omega) (ls1 := [some (vI x1), none, none]) rfl k
theorem BX3_withoutLast_4 {d bc bs : Nat} {h : aH} {n : Nat} {Q : aQ} {x0 x1 s0 : Int} {l2 : Option aV} (kt : s0 ≠ 0 → Rn d bc bs mX3_withoutLast 13 [some (vI x0), some (vI x1), some (vI s0)] [] h n Q) (kf : s0 = 0 → Rn d bc bs mX3_withoutLast 9 [some (vI x0), some (vI x1), some (vI s0)] [] h n Q) : Rn d (bc) (bs) mX3_withoutLast 4 [some (vI x0), some (vI x1), l2] [vI s0] h n Q := by
  refine Rn_istore_n dX3_withoutLast_4 rfl (Nat.le_of_ble_eq_true rfl) rfl rfl ?_
  refine Rn_iload_n dX3_withoutLast_5 rfl rfl ?_
  refine Rn_ifne (tgt := 13) dX3_withoutLast_6 rfl ?_ ?_
  · exact kt
  · exact kf
theorem BX3_withoutLast_9 {d bc bs : Nat} {h : aH} {n : Nat} {Q : aQ} {x0 x1 x2 : Int} (k : Q (some (vI 0)) h n) : Rn d (bc) (bs) mX3_withoutLast 9 [some (vI x0), some (vI x1), some (vI x2)] [] h n Q := by
  refine Rn_iconst dX3_withoutLast_9 rfl ?_
  refine Rn_goto (tgt := 16) dX3_withoutLast_10 rfl ?_
  exact Rn_ireturn rfl dX3_withoutLast_16 k
theorem BX3_withoutLast_13 {d bc bs : Nat} {h : aH} {n : Nat} {Q : aQ} {x0 x1 x2 : Int} (e1 : ¬ x2 = 0) (b2 : -2147483648 ≤ Int.tdiv x0 x2 ∧ Int.tdiv x0 x2 < 2147483648) (k : Q (some (vI (Int.tdiv x0 x2))) h n) : Rn d (bc) (bs) mX3_withoutLast 13 [some (vI x0), some (vI x1), some (vI x2)] [] h n Q := by
  refine Rn_iload_n dX3_withoutLast_13 rfl rfl ?_
  refine Rn_iload_n dX3_withoutLast_14 rfl rfl ?_
  refine Rn_idiv dX3_withoutLast_15 e1 ?_
  rw [w32_id b2.1 b2.2]
  exact Rn_ireturn rfl dX3_withoutLast_16 k
theorem dX3_lastOf_0 : decode cX3_lastOf 0 = .ok (.iload_n 1, 1) := by decide +kernel
theorem dX3_lastOf_1 : decode cX3_lastOf 1 = .ok (.invokestatic 38, 3) := by decide +kernel
theorem dX3_lastOf_4 : decode cX3_lastOf 4 = .ok (.istore_n 2, 1) := by decide +kernel
theorem dX3_lastOf_5 : decode cX3_lastOf 5 = .ok (.iload_n 2, 1) := by decide +kernel
theorem dX3_lastOf_6 : decode cX3_lastOf 6 = .ok (.ifCond .ne 7, 3) := by decide +kernel
theorem dX3_lastOf_9 : decode cX3_lastOf 9 = .ok (.iconst 0, 1) := by decide +kernel
theorem dX3_lastOf_10 : decode cX3_lastOf 10 = .ok (.goto 6, 3) := by decide +kernel
theorem dX3_lastOf_13 : decode cX3_lastOf 13 = .ok (.iload_n 0, 1) := by decide +kernel
theorem dX3_lastOf_14 : decode cX3_lastOf 14 = .ok (.iload_n 2, 1) := by decide +kernel
theorem dX3_lastOf_15 : decode cX3_lastOf 15 = .ok (.irem, 1) := by decide +kernel
theorem dX3_lastOf_16 : decode cX3_lastOf 16 = .ok (.ireturn, 1) := by decide +kernel
theorem BX3_lastOf_0 {d bc bs : Nat} {h : aH} {n : Nat} {Q : aQ} {x0 x1 : Int} {l2 : Option aV} (k : Rn d 0 0 mX3_tenTo 0 [some (vI x1), none, none] [] h n (fun v h1 n1 => Rn (d + 1) bc bs mX3_lastOf 4 [some (vI x0), some (vI x1), l2] (v.toList ++ []) h1 n1 Q)) : Rn (d + 1) (bc) (bs) mX3_lastOf 0 [some (vI x0), some (vI x1), l2] [] h n Q := by
  refine Rn_iload_n dX3_lastOf_0 rfl rfl ?_
  exact Rn_callS (avs := [vI x1]) (st := []) (bc1 := 0) (bs1 := 0) (bc2 := bc) (bs2 := bs) fx_X3_tenTo dX3_lastOf_1 (Or.inl wd_1194) wd_1195 rfl (Nat.le_of_ble_eq_true rfl) (Nat.le_of_ble_eq_true rfl) (by omega) (by omega) (ls1 := [some (vI x1), none, none]) rfl k
theorem BX3_lastOf_4 {d bc bs : Nat} {h : aH} {n : Nat} {Q : aQ} {x0 x1 s0 : Int} {l2 : Option aV} (kt : s0 ≠ 0 → Rn d bc bs mX3_lastOf 13 [some (vI x0), some (vI x1), some (vI s0)] [] h n Q) (kf : s0 = 0 → Rn d bc bs mX3_lastOf 9 [some (vI x0), some (vI x1), some (vI s0)] [] h n Q) : Rn d (bc) (bs) mX3_lastOf 4 [some (vI x0), some (vI x1), l2] [vI s0] h n Q := by
  refine Rn_istore_n dX3_lastOf_4 rfl (Nat.le_of_ble_eq_true rfl) rfl rfl ?_
  refine Rn_iload_n dX3_lastOf_5 rfl rfl ?_
  refine Rn_ifne (tgt := 13) dX3_lastOf_6 rfl ?_ ?_
  · exact kt
  · exact kf
theorem BX3_lastOf_9 {d bc bs : Nat} {h : aH} {n : Nat} {Q : aQ} {x0 x1 x2 : Int} (k : Q (some (vI 0)) h n) : Rn d (bc) (bs) mX3_lastOf 9 [some (vI x0), some (vI x1), some (vI x2)] [] h n Q := by
  refine Rn_iconst dX3_lastOf_9 rfl ?_
  refine Rn_goto (tgt := 16) dX3_lastOf_10 rfl ?_
  exact Rn_ireturn rfl dX3_lastOf_16 k
theorem BX3_lastOf_13 {d bc bs : Nat} {h : aH} {n : Nat} {Q : aQ} {x0 x1 x2 : Int} (e1 : ¬ x2 = 0) (k : Q (some (vI (Int.tmod x0 x2))) h n) : Rn d (bc) (bs) mX3_lastOf 13 [some (vI x0), some (vI x1), some (vI x2)] [] h n Q := by
  refine Rn_iload_n dX3_lastOf_13 rfl rfl ?_
  refine Rn_iload_n dX3_lastOf_14 rfl rfl ?_
  refine Rn_irem dX3_lastOf_15 e1 ?_
  exact Rn_ireturn rfl dX3_lastOf_16 k
theorem dX3_digitsOf_0 : decode cX3_digitsOf 0 = .ok (.iload_n 0, 1) := by decide +kernel
theorem dX3_digitsOf_1 : decode cX3_digitsOf 1 = .ok (.istore_n 1, 1) := by decide +kernel
theorem dX3_digitsOf_2 : decode cX3_digitsOf 2 = .ok (.iconst 0, 1) := by decide +kernel
theorem dX3_digitsOf_3 : decode cX3_digitsOf 3 = .ok (.istore_n 2, 1) := by decide +kernel
theorem dX3_digitsOf_4 : decode cX3_digitsOf 4 = .ok (.iload_n 2, 1) := by decide +kernel
theorem dX3_digitsOf_5 : decode cX3_digitsOf 5 = .ok (.bipush 9, 2) := by decide +kernel
theorem dX3_digitsOf_7 : decode cX3_digitsOf 7 = .ok (.if_icmp .ge 20, 3) := by decide +kernel
theorem dX3_digitsOf_10 : decode cX3_digitsOf 10 = .ok (.iload_n 1, 1) := by decide +kernel
theorem dX3_digitsOf_11 : decode cX3_digitsOf 11 = .ok (.ifCond .gt 5, 3) := by decide +kernel
theorem dX3_digitsOf_14 : decode cX3_digitsOf 14 = .ok (.iload_n 2, 1) := by decide +kernel
theorem dX3_digitsOf_15 : decode cX3_digitsOf 15 = .ok (.ireturn, 1) := by decide +kernel
theorem dX3_digitsOf_16 : decode cX3_digitsOf 16 = .ok (.iload_n 1, 1) := by decide +kernel
theorem dX3_digitsOf_17 : decode cX3_digitsOf 17 = .ok (.bipush 10, 2) := by decide +kernel
theorem dX3_digitsOf_19 : decode cX3_digitsOf 19 = .ok (.idiv, 1) := by decide +kernel
theorem dX3_digitsOf_20 : decode cX3_digitsOf 20 = .ok (.istore_n 1, 1) := by decide +kernel
theorem dX3_digitsOf_21 : decode cX3_digitsOf 21 = .ok (.iinc 2 1, 3) := by decide +kernel
theorem dX3_digitsOf_24 : decode cX3_digitsOf 24 = .ok (.goto (-20), 3) := by decide +kernel
theorem dX3_digitsOf_27 : decode cX3_digitsOf 27 = .ok (.bipush 9, 2) := by decide +kernel
theorem dX3_digitsOf_29 : decode cX3_digitsOf 29 = .ok (.ireturn, 1) := by decide +kernel
theorem BX3_digitsOf_0 {d bc bs : Nat} {h : aH} {n : Nat} {Q : aQ} {x0 : Int} {l1 l2 : Option aV} (k : Rn d bc bs mX3_digitsOf 4 [some (vI x0), some (vI x0), some (vI 0)] [] h n Q) : Rn d (bc) (bs) mX3_digitsOf 0 [some (vI x0), l1, l2] [] h n Q := by
  refine Rn_iload_n dX3_digitsOf_0 rfl rfl ?_
  refine Rn_istore_n dX3_digitsOf_1 rfl (Nat.le_of_ble_eq_true rfl) rfl rfl ?_
  refine Rn_iconst dX3_digitsOf_2 rfl ?_
  refine Rn_istore_n dX3_digitsOf_3 rfl (Nat.le_of_ble_eq_true rfl) rfl rfl ?_
  exact k
theorem BX3_digitsOf_4 {d bc bs : Nat} {h : aH} {n : Nat} {Q : aQ} {x0 x1 x2 : Int} (kt : 9 ≤ x2 → Rn d bc bs mX3_digitsOf 27 [some (vI x0), some (vI x1), some (vI x2)] [] h n Q) (kf : x2 < 9 → Rn d bc bs mX3_digitsOf 10 [some (vI x0), some (vI x1), some (vI x2)] [] h n Q) : Rn d (bc) (bs) mX3_digitsOf 4 [some (vI x0), some (vI x1), some (vI x2)] [] h n Q := by
  refine Rn_iload_n dX3_digitsOf_4 rfl rfl ?_
  refine Rn_bipush dX3_digitsOf_5 rfl ?_
  refine Rn_icmpge (tgt := 27) dX3_digitsOf_7 rfl ?_ ?_
  · exact kt
  · exact kf
theorem BX3_digitsOf_10 {d bc bs : Nat} {h : aH} {n : Nat} {Q : aQ} {x0 x1 x2 : Int} (kt : 0 < x1 → Rn d bc bs mX3_digitsOf 16 [some (vI x0), some (vI x1), some (vI x2)] [] h n Q) (kf : x1 ≤ 0 → Rn d bc bs mX3_digitsOf 14 [some (vI x0), some (vI x1), some (vI x2)] [] h n Q) : Rn d (bc) (bs) mX3_digitsOf 10 [some (vI x0), some (vI x1), some (vI x2)] [] h n Q := by
  refine Rn_iload_n dX3_digitsOf_10 rfl rfl ?_
  refine Rn_ifgt (tgt := 16) dX3_digitsOf_11 rfl ?_ ?_
  · exact kt
  · exact kf
theorem BX3_digitsOf_14 {d bc bs : Nat} {h : aH} {n : Nat} {Q : aQ} {x0 x1 x2 : Int} (k : Q (some (vI x2)) h n) : Rn d (bc) (bs) mX3_digitsOf 14 [some (vI x0), some (vI x1), some (vI x2)] [] h n Q := by
  refine Rn_iload_n dX3_digitsOf_14 rfl rfl ?_
  exact Rn_ireturn rfl dX3_digitsOf_15 k
theorem BX3_digitsOf_16 {d bc bs : Nat} {h : aH} {n : Nat} {Q : aQ} {x0 x1 x2 : Int} (b1 : 0 ≤ x1) (b2 : -2147483648 ≤ x1 / 10 ∧ x1 / 10 < 2147483648) (b3 : -2147483648 ≤ x2 + 1 ∧ x2 + 1 < 2147483648) (k : Rn d bc bs mX3_digitsOf 4 [some (vI x0), some (vI (x1 / 10)), some (vI (x2 + 1))] [] h n Q) : Rn d (bc) (bs) mX3_digitsOf 16 [some (vI x0), some (vI x1), some (vI x2)] [] h n Q := by
  refine Rn_iload_n dX3_digitsOf_16 rfl rfl ?_
  refine Rn_bipush dX3_digitsOf_17 rfl ?_
  refine Rn_idiv dX3_digitsOf_19 (by decide) ?_
  rw [Int.tdiv_eq_ediv_of_nonneg b1]
  rw [w32_id b2.1 b2.2]
  refine Rn_istore_n dX3_digitsOf_20 rfl (Nat.le_of_ble_eq_true rfl) rfl rfl ?_
  refine Rn_iinc dX3_digitsOf_21 rfl (Nat.le_of_ble_eq_true rfl) rfl rfl rfl ?_
  rw [w32_id b3.1 b3.2]
  refine Rn_goto (tgt := 4) dX3_digitsOf_24 rfl ?_
  exact k
theorem BX3_digitsOf_27 {d bc bs : Nat} {h : aH} {n : Nat} {Q : aQ} {x0 x1 x2 : Int} (k : Q (some (vI 9)) h n) : Rn d (bc) (bs) mX3_digitsOf 27 [some (vI x0), some (vI x1), some (vI x2)] [] h n Q := by
  refine Rn_bipush dX3_digitsOf_27 rfl ?_
  exact Rn_ireturn rfl dX3_digitsOf_29 k
theorem dX3_startsWith_0 : decode cX3_startsWith 0 = .ok (.iload_n 0, 1) := by decide +kernel
theorem dX3_startsWith_1 : decode cX3_startsWith 1 = .ok (.invokestatic 42, 3) := by decide +kernel
theorem dX3_startsWith_4 : decode cX3_startsWith 4 = .ok (.iload_n 1, 1) := by decide +kernel
theorem dX3_startsWith_5 : decode cX3_startsWith 5 = .ok (.invokestatic 42, 3) := by decide +kernel
theorem dX3_startsWith_8 : decode cX3_startsWith 8 = .ok (.isub, 1) := by decide +kernel
theorem dX3_startsWith_9 : decode cX3_startsWith 9 = .ok (.istore_n 2, 1) := by decide +kernel
theorem dX3_startsWith_10 : decode cX3_startsWith 10 = .ok (.iload_n 2, 1) := by decide +kernel
theorem dX3_startsWith_11 : decode cX3_startsWith 11 = .ok (.ifCond .lt 16, 3) := by decide +kernel
theorem dX3_startsWith_14 : decode cX3_startsWith 14 = .ok (.iload_n 0, 1) := by decide +kernel
theorem dX3_startsWith_15 : decode cX3_startsWith 15 = .ok (.iload_n 2, 1) := by decide +kernel
theorem dX3_startsWith_16 : decode cX3_startsWith 16 = .ok (.invokestatic 45, 3) := by decide +kernel
theorem dX3_startsWith_19 : decode cX3_startsWith 19 = .ok (.iload_n 1, 1) := by decide +kernel
theorem dX3_startsWith_20 : decode cX3_startsWith 20 = .ok (.if_icmp .ne 7, 3) := by decide +kernel
theorem dX3_startsWith_23 : decode cX3_startsWith 23 = .ok (.iconst 1, 1) := by decide +kernel
theorem dX3_startsWith_24 : decode cX3_startsWith 24 = .ok (.goto 4, 3) := by decide +kernel
theorem dX3_startsWith_27 : decode cX3_startsWith 27 = .ok (.iconst 0, 1) := by decide +kernel
theorem dX3_startsWith_28 : decode cX3_startsWith 28 = .ok (.ireturn, 1) := by decide +kernel
theorem BX3_startsWith_0 {d bc bs : Nat} {h : aH} {n : Nat} {Q : aQ} {x0 x1 : Int} {l2 : Option aV} (k : Rn d 0 0 mX3_digitsOf 0 [some (vI x0), none, none] [] h n (fun v h1 n1 => Rn (d + 1) bc bs mX3_startsWith 4 [some (vI x0), some (vI x1), l2] (v.toList ++ []) h1 n1 Q)) : Rn (d + 1) (bc) (bs) mX3_startsWith 0 [some (vI x0), some (vI x1), l2] [] h n Q := by
  refine Rn_iload_n dX3_startsWith_0 rfl rfl ?_
  exact Rn_callS (avs := [vI x0]) (st := []) (bc1 := 0) (bs1 := 0) (bc2 := bc) (bs2 := bs) fx_X3_digitsOf dX3_startsWith_1 (Or.inl wd_1188) wd_1189 rfl (Nat.le_of_ble_eq_true rfl) (Nat.le_of_ble_eq_true rfl) (by omega) (by omega) (ls1 := [some (vI x0), none, none]) rfl k
theorem BX3_startsWith_4 {d bc bs : Nat} {h : aH} {n : Nat} {Q : aQ} {x0 x1 s0 : Int} {l2 : Option aV} (k : Rn d 0 0 mX3_digitsOf 0 [some (vI x1), none, none] [] h n (fun v h1 n1 => Rn (d + 1) bc bs mX3_startsWith 8 [some (vI x0), some (vI x1), l2] (v.toList ++ [vI s0]) h1 n1 Q)) : Rn (d + 1) (bc) (bs) mX3_startsWith 4 [some (vI x0), some (vI x1), l2] [vI s0] h n Q := by
  refine Rn_iload_n dX3_startsWith_4 rfl rfl ?_
  exact Rn_callS (avs := [vI x1]) (st := [vI s0]) (bc1 := 0) (bs1 := 0) (bc2 := bc) (bs2 := bs) fx_X3_digitsOf dX3_startsWith_5 (Or.inl wd_1188) wd_1189 rfl (Nat.le_of_ble_eq_true rfl) (Nat.le_of_ble_eq_true rfl) (by omega) (by omega) (ls1 := [some (vI x1), none, none]) rfl k
theorem BX3_startsWith_8 {d bc bs : Nat} {h : aH} {n : Nat} {Q : aQ} {x0 x1 s0 s1 : Int} {l2 : Option aV} (b1 : -2147483648 ≤ s0 - s1 ∧ s0 - s1 < 2147483648) (kt : (s0 - s1) < 0 → Rn d bc bs mX3_startsWith 27 [some (vI x0), some (vI x1), some (vI (s0 - s1))] [] h n Q) (kf : 0 ≤ (s0 - s1) → Rn d bc bs mX3_startsWith 14 [some (vI x0), some (vI x1), some (vI (s0 - s1))] [] h n Q) : Rn d (bc) (bs) mX3_startsWith 8 [some (vI x0), some (vI x1), l2] [vI s1, vI s0] h n Q := by
  refine Rn_isub dX3_startsWith_8 ?_
  rw [w32_id b1.1 b1.2]
  refine Rn_istore_n dX3_startsWith_9 rfl (Nat.le_of_ble_eq_true rfl) rfl rfl ?_
  refine Rn_iload_n dX3_startsWith_10 rfl rfl ?_
  refine Rn_iflt (tgt := 27) dX3_startsWith_11 rfl ?_ ?_
  · exact kt
  · exact kf
theorem BX3_startsWith_14 {d bc bs : Nat} {h : aH} {n : Nat} {Q : aQ} {x0 x1 x2 : Int} (k : Rn d 0 0 mX3_withoutLast 0 [some (vI x0), some (vI x2), none] [] h n (fun v h1 n1 => Rn (d + 1) bc bs mX3_startsWith 19 [some (vI x0), some (vI x1), some (vI x2)] (v.toList ++ []) h1 n1 Q)) : Rn (d + 1) (bc) (bs) mX3_startsWith 14 [some (vI x0), some (vI x1), some (vI x2)] [] h n Q := by
  refine Rn_iload_n dX3_startsWith_14 rfl rfl ?_
  refine Rn_iload_n dX3_startsWith_15 rfl rfl ?_
  exact Rn_callS (avs := [vI x0, vI x2]) (st := []) (bc1 := 0) (bs1 := 0) (bc2 := bc) (bs2 := bs) fx_X3_withoutLast dX3_startsWith_16 (Or.inl wd_1191) wd_1192 rfl (Nat.le_of_ble_eq_true rfl) (Nat.le_of_ble_eq_true rfl) (by omega) (by omega) (ls1 := [some (vI x0), some (vI x2), none]) rfl k
theorem BX3_startsWith_19 {d bc bs : Nat} {h : aH} {n : Nat} {Q : aQ} {x0 x1 x2 s0 : Int} (kt : s0 ≠ x1 → Rn d bc bs mX3_startsWith 27 [some (vI x0), some (vI x1), some (vI x2)] [] h n Q) (kf : s0 = x1 → Rn d bc bs mX3_startsWith 23 [some (vI x0), some (vI x1), some (vI x2)] [] h n Q) : Rn d (bc) (bs) mX3_startsWith 19 [some (vI x0), some (vI x1), some (vI x2)] [vI s0] h n Q := by
  refine Rn_iload_n dX3_startsWith_19 rfl rfl ?_
  refine Rn_icmpne (tgt := 27) dX3_startsWith_20 rfl ?_ ?_
  · exact kt
  · exact kf
theorem BX3_startsWith_23 {d bc bs : Nat} {h : aH} {n : Nat} {Q : aQ} {x0 x1 x2 : Int} (k : Q (some (vI 1)) h n) : Rn d (bc) (bs) mX3_startsWith 23 [some (vI x0), some (vI x1), some (vI x2)] [] h n Q := by
  refine Rn_iconst dX3_startsWith_23 rfl ?_
  refine Rn_goto (tgt := 28) dX3_startsWith_24 rfl ?_
  exact Rn_zreturn rfl dX3_startsWith_28 (by decide) k
theorem BX3_startsWith_27 {d bc bs : Nat} {h : aH} {n : Nat} {Q : aQ} {x0 x1 x2 : Int} (k : Q (some (vI 0)) h n) : Rn d (bc) (bs) mX3_startsWith 27 [some (vI x0), some (vI x1), some (vI x2)] [] h n Q := by
  refine Rn_iconst dX3_startsWith_27 rfl ?_
  exact Rn_zreturn rfl dX3_startsWith_28 (by decide) k
theorem dX3_shortestUnclear_0 : decode cX3_shortestUnclear 0 = .ok (.aload_n 0, 1) := by decide +kernel
theorem dX3_shortestUnclear_1 : decode cX3_shortestUnclear 1 = .ok (.getfield 11, 3) := by decide +kernel
theorem dX3_shortestUnclear_4 : decode cX3_shortestUnclear 4 = .ok (.ldc 25, 2) := by decide +kernel
theorem dX3_shortestUnclear_6 : decode cX3_shortestUnclear 6 = .ok (.invokestatic 49, 3) := by decide +kernel
theorem dX3_shortestUnclear_9 : decode cX3_shortestUnclear 9 = .ok (.aload_n 0, 1) := by decide +kernel
theorem dX3_shortestUnclear_10 : decode cX3_shortestUnclear 10 = .ok (.ldc 25, 2) := by decide +kernel
theorem dX3_shortestUnclear_12 : decode cX3_shortestUnclear 12 = .ok (.putfield 26, 3) := by decide +kernel
theorem dX3_shortestUnclear_15 : decode cX3_shortestUnclear 15 = .ok (.aload_n 0, 1) := by decide +kernel
theorem dX3_shortestUnclear_16 : decode cX3_shortestUnclear 16 = .ok (.iconst 1, 1) := by decide +kernel
theorem dX3_shortestUnclear_17 : decode cX3_shortestUnclear 17 = .ok (.putfield 30, 3) := by decide +kernel
theorem dX3_shortestUnclear_20 : decode cX3_shortestUnclear 20 = .ok (.iconst 0, 1) := by decide +kernel
theorem dX3_shortestUnclear_21 : decode cX3_shortestUnclear 21 = .ok (.istore_n 2, 1) := by decide +kernel
theorem dX3_shortestUnclear_22 : decode cX3_shortestUnclear 22 = .ok (.iload_n 2, 1) := by decide +kernel
theorem dX3_shortestUnclear_23 : decode cX3_shortestUnclear 23 = .ok (.aload_n 1, 1) := by decide +kernel
theorem dX3_shortestUnclear_24 : decode cX3_shortestUnclear 24 = .ok (.getfield 55, 3) := by decide +kernel
theorem dX3_shortestUnclear_27 : decode cX3_shortestUnclear 27 = .ok (.if_icmp .ge 80, 3) := by decide +kernel
theorem dX3_shortestUnclear_30 : decode cX3_shortestUnclear 30 = .ok (.iconst 0, 1) := by decide +kernel
theorem dX3_shortestUnclear_31 : decode cX3_shortestUnclear 31 = .ok (.istore_n 3, 1) := by decide +kernel
theorem dX3_shortestUnclear_32 : decode cX3_shortestUnclear 32 = .ok (.iload_n 3, 1) := by decide +kernel
theorem dX3_shortestUnclear_33 : decode cX3_shortestUnclear 33 = .ok (.aload_n 1, 1) := by decide +kernel
theorem dX3_shortestUnclear_34 : decode cX3_shortestUnclear 34 = .ok (.getfield 55, 3) := by decide +kernel
theorem dX3_shortestUnclear_37 : decode cX3_shortestUnclear 37 = .ok (.if_icmp .ge 64, 3) := by decide +kernel
theorem dX3_shortestUnclear_40 : decode cX3_shortestUnclear 40 = .ok (.aload_n 1, 1) := by decide +kernel
theorem dX3_shortestUnclear_41 : decode cX3_shortestUnclear 41 = .ok (.iload_n 2, 1) := by decide +kernel
theorem dX3_shortestUnclear_42 : decode cX3_shortestUnclear 42 = .ok (.invokevirtual 60, 3) := by decide +kernel
theorem dX3_shortestUnclear_45 : decode cX3_shortestUnclear 45 = .ok (.istore 4, 2) := by decide +kernel
theorem dX3_shortestUnclear_47 : decode cX3_shortestUnclear 47 = .ok (.iload_n 2, 1) := by decide +kernel
theorem dX3_shortestUnclear_48 : decode cX3_shortestUnclear 48 = .ok (.iload_n 3, 1) := by decide +kernel
theorem dX3_shortestUnclear_49 : decode cX3_shortestUnclear 49 = .ok (.if_icmp .eq 20, 3) := by decide +kernel
theorem dX3_shortestUnclear_52 : decode cX3_shortestUnclear 52 = .ok (.iload 4, 2) := by decide +kernel
theorem dX3_shortestUnclear_54 : decode cX3_shortestUnclear 54 = .ok (.aload_n 1, 1) := by decide +kernel
theorem dX3_shortestUnclear_55 : decode cX3_shortestUnclear 55 = .ok (.iload_n 3, 1) := by decide +kernel
theorem dX3_shortestUnclear_56 : decode cX3_shortestUnclear 56 = .ok (.invokevirtual 60, 3) := by decide +kernel
theorem dX3_shortestUnclear_59 : decode cX3_shortestUnclear 59 = .ok (.invokestatic 63, 3) := by decide +kernel
theorem dX3_shortestUnclear_62 : decode cX3_shortestUnclear 62 = .ok (.ifCond .eq 7, 3) := by decide +kernel
theorem dX3_shortestUnclear_65 : decode cX3_shortestUnclear 65 = .ok (.iconst 1, 1) := by decide +kernel
theorem dX3_shortestUnclear_66 : decode cX3_shortestUnclear 66 = .ok (.goto 4, 3) := by decide +kernel
theorem dX3_shortestUnclear_69 : decode cX3_shortestUnclear 69 = .ok (.iconst 0, 1) := by decide +kernel
theorem dX3_shortestUnclear_70 : decode cX3_shortestUnclear 70 = .ok (.istore 5, 2) := by decide +kernel
theorem dX3_shortestUnclear_72 : decode cX3_shortestUnclear 72 = .ok (.iload 5, 2) := by decide +kernel
theorem dX3_shortestUnclear_74 : decode cX3_shortestUnclear 74 = .ok (.ifCond .eq 21, 3) := by decide +kernel
theorem dX3_shortestUnclear_77 : decode cX3_shortestUnclear 77 = .ok (.aload_n 0, 1) := by decide +kernel
theorem dX3_shortestUnclear_78 : decode cX3_shortestUnclear 78 = .ok (.iload_n 2, 1) := by decide +kernel
theorem dX3_shortestUnclear_79 : decode cX3_shortestUnclear 79 = .ok (.aload_n 1, 1) := by decide +kernel
theorem dX3_shortestUnclear_80 : decode cX3_shortestUnclear 80 = .ok (.iload_n 3, 1) := by decide +kernel
theorem dX3_shortestUnclear_81 : decode cX3_shortestUnclear 81 = .ok (.invokevirtual 60, 3) := by decide +kernel
theorem dX3_shortestUnclear_84 : decode cX3_shortestUnclear 84 = .ok (.invokestatic 42, 3) := by decide +kernel
theorem dX3_shortestUnclear_87 : decode cX3_shortestUnclear 87 = .ok (.iload 4, 2) := by decide +kernel
theorem dX3_shortestUnclear_89 : decode cX3_shortestUnclear 89 = .ok (.invokestatic 42, 3) := by decide +kernel
theorem dX3_shortestUnclear_92 : decode cX3_shortestUnclear 92 = .ok (.invokevirtual 67, 3) := by decide +kernel
theorem dX3_shortestUnclear_95 : decode cX3_shortestUnclear 95 = .ok (.iinc 3 1, 3) := by decide +kernel
theorem dX3_shortestUnclear_98 : decode cX3_shortestUnclear 98 = .ok (.goto (-66), 3) := by decide +kernel
theorem dX3_shortestUnclear_101 : decode cX3_shortestUnclear 101 = .ok (.iinc 2 1, 3) := by decide +kernel
theorem dX3_shortestUnclear_104 : decode cX3_shortestUnclear 104 = .ok (.goto (-82), 3) := by decide +kernel
theorem dX3_shortestUnclear_107 : decode cX3_shortestUnclear 107 = .ok (.iconst 0, 1) := by decide +kernel
theorem dX3_shortestUnclear_108 : decode cX3_shortestUnclear 108 = .ok (.istore_n 2, 1) := by decide +kernel
theorem dX3_shortestUnclear_109 : decode cX3_shortestUnclear 109 = .ok (.iload_n 2, 1) := by decide +kernel
theorem dX3_shortestUnclear_110 : decode cX3_shortestUnclear 110 = .ok (.aload_n 0, 1) := by decide +kernel
theorem dX3_shortestUnclear_111 : decode cX3_shortestUnclear 111 = .ok (.getfield 11, 3) := by decide +kernel
theorem dX3_shortestUnclear_114 : decode cX3_shortestUnclear 114 = .ok (.arraylength, 1) := by decide +kernel
theorem dX3_shortestUnclear_115 : decode cX3_shortestUnclear 115 = .ok (.if_icmp .ge 26, 3) := by decide +kernel
theorem dX3_shortestUnclear_118 : decode cX3_shortestUnclear 118 = .ok (.aload_n 0, 1) := by decide +kernel
theorem dX3_shortestUnclear_119 : decode cX3_shortestUnclear 119 = .ok (.getfield 30, 3) := by decide +kernel
theorem dX3_shortestUnclear_122 : decode cX3_shortestUnclear 122 = .ok (.ifCond .eq 19, 3) := by decide +kernel
theorem dX3_shortestUnclear_125 : decode cX3_shortestUnclear 125 = .ok (.aload_n 0, 1) := by decide +kernel
theorem dX3_shortestUnclear_126 : decode cX3_shortestUnclear 126 = .ok (.iconst 0, 1) := by decide +kernel
theorem dX3_shortestUnclear_127 : decode cX3_shortestUnclear 127 = .ok (.putfield 30, 3) := by decide +kernel
theorem dX3_shortestUnclear_130 : decode cX3_shortestUnclear 130 = .ok (.aload_n 0, 1) := by decide +kernel
theorem dX3_shortestUnclear_131 : decode cX3_shortestUnclear 131 = .ok (.aload_n 1, 1) := by decide +kernel
theorem dX3_shortestUnclear_132 : decode cX3_shortestUnclear 132 = .ok (.invokevirtual 71, 3) := by decide +kernel
theorem dX3_shortestUnclear_135 : decode cX3_shortestUnclear 135 = .ok (.iinc 2 1, 3) := by decide +kernel
theorem dX3_shortestUnclear_138 : decode cX3_shortestUnclear 138 = .ok (.goto (-29), 3) := by decide +kernel
theorem dX3_shortestUnclear_141 : decode cX3_shortestUnclear 141 = .ok (.aload_n 0, 1) := by decide +kernel
theorem dX3_shortestUnclear_142 : decode cX3_shortestUnclear 142 = .ok (.getfield 26, 3) := by decide +kernel
theorem dX3_shortestUnclear_145 : decode cX3_shortestUnclear 145 = .ok (.ldc 25, 2) := by decide +kernel
theorem dX3_shortestUnclear_147 : decode cX3_shortestUnclear 147 = .ok (.if_icmp .ne 7, 3) := by decide +kernel
theorem dX3_shortestUnclear_150 : decode cX3_shortestUnclear 150 = .ok (.iconst (-1), 1) := by decide +kernel
theorem dX3_shortestUnclear_151 : decode cX3_shortestUnclear 151 = .ok (.goto 7, 3) := by decide +kernel
theorem dX3_shortestUnclear_154 : decode cX3_shortestUnclear 154 = .ok (.aload_n 0, 1) := by decide +kernel
theorem dX3_shortestUnclear_155 : decode cX3_shortestUnclear 155 = .ok (.getfield 26, 3) := by decide +kernel
theorem dX3_shortestUnclear_158 : decode cX3_shortestUnclear 158 = .ok (.ireturn, 1) := by decide +kernel
theorem BX3_shortestUnclear_0 {d bc bs : Nat} {h : aH} {n : Nat} {Q : aQ} {ar0 : Nat} {r1 t3 : Option Nat} {l2 l3 l4 l5 : Option aV} {f1 : List aV} (h2 : h ar0 = cO 3 f1) (g4 : f1[0]? = some (vR t3)) (k : Rn d 0 0 mJ7_fill_53178 0 [some (vR t3), some (vI 1000000), none, none] [] h n (fun v h1 n1 => Rn (d + 1) bc bs mX3_shortestUnclear 9 [some (vR (some ar0)), some (vR r1), l2, l3, l4, l5] (v.toList ++ []) h1 n1 Q)) : Rn (d + 1) (bc) (bs) mX3_shortestUnclear 0 [some (vR (some ar0)), some (vR r1), l2, l3, l4, l5] [] h n Q := by
  refine Rn_aload_n dX3_shortestUnclear_0 rfl rfl rfl ?_
  refine Rn_getfield (ci := 3) (k := 0) dX3_shortestUnclear_1 rfl in_3 (Nat.le_of_ble_eq_true rfl) wd_438 rfl h2 g4 ?_
  refine Rn_ldc dX3_shortestUnclear_4 wd_437 rfl ?_
  exact Rn_callS (avs := [vR t3, vI 1000000]) (st := []) (bc1 := 0) (bs1 := 0) (bc2 := bc) (bs2 := bs) fx_J7_fill_53178 dX3_shortestUnclear_6 (Or.inl wd_1181) wd_1182 rfl (Nat.le_of_ble_eq_true rfl) (Nat.le_of_ble_eq_true rfl) (by omega) (by omega) (ls1 := [some (vR t3), some (vI 1000000), none, none]) rfl k
theorem BX3_shortestUnclear_9 {d bc bs : Nat} {h : aH} {n : Nat} {Q : aQ} {ar0 : Nat} {r1 : Option Nat} {l2 l3 l4 l5 : Option aV} {f1 : List aV} (h2 : h ar0 = cO 3 f1) (m3 : 4 < f1.length) (k : Rn d bc bs mX3_shortestUnclear 15 [some (vR (some ar0)), some (vR r1), l2, l3, l4, l5] [] (up h ar0 (cO 3 (f1.set 4 (vI 1000000)))) n Q) : Rn d (bc) (bs) mX3_shortestUnclear 9 [some (vR (some ar0)), some (vR r1), l2, l3, l4, l5] [] h n Q := by
  refine Rn_aload_n dX3_shortestUnclear_9 rfl rfl rfl ?_
  refine Rn_ldc dX3_shortestUnclear_10 wd_437 rfl ?_
  refine Rn_putfield (ci := 3) (k := 4) dX3_shortestUnclear_12 rfl in_3 tyX3_ok nmX3 (Nat.le_of_ble_eq_true rfl) wd_442 rfl (Or.inl rfl) trivial m3 h2 ?_
  exact k
theorem BX3_shortestUnclear_15 {d bc bs : Nat} {h : aH} {n : Nat} {Q : aQ} {ar0 : Nat} {r1 : Option Nat} {l2 l3 l4 l5 : Option aV} {f1 : List aV} (h2 : h ar0 = cO 3 f1) (m3 : 5 < f1.length) (k : Rn d bc bs mX3_shortestUnclear 20 [some (vR (some ar0)), some (vR r1), l2, l3, l4, l5] [] (up h ar0 (cO 3 (f1.set 5 (vI 1)))) n Q) : Rn d (bc) (bs) mX3_shortestUnclear 15 [some (vR (some ar0)), some (vR r1), l2, l3, l4, l5] [] h n Q := by
  refine Rn_aload_n dX3_shortestUnclear_15 rfl rfl rfl ?_
  refine Rn_iconst dX3_shortestUnclear_16 rfl ?_
  refine Rn_putfield (ci := 3) (k := 5) dX3_shortestUnclear_17 rfl in_3 tyX3_ok nmX3 (Nat.le_of_ble_eq_true rfl) wd_443 rfl (Or.inl rfl) (show (1 : Int) = 0 ∨ (1 : Int) = 1 by decide) m3 h2 ?_
  exact k
theorem BX3_shortestUnclear_20 {d bc bs : Nat} {h : aH} {n : Nat} {Q : aQ} {r0 r1 : Option Nat} {l2 l3 l4 l5 : Option aV} (k : Rn d bc bs mX3_shortestUnclear 22 [some (vR r0), some (vR r1), some (vI 0), l3, l4, l5] [] h n Q) : Rn d (bc) (bs) mX3_shortestUnclear 20 [some (vR r0), some (vR r1), l2, l3, l4, l5] [] h n Q := by
  refine Rn_iconst dX3_shortestUnclear_20 rfl ?_
  refine Rn_istore_n dX3_shortestUnclear_21 rfl (Nat.le_of_ble_eq_true rfl) rfl rfl ?_
  exact k
theorem BX3_shortestUnclear_22 {d bc bs : Nat} {h : aH} {n : Nat} {Q : aQ} {r0 : Option Nat} {ar1 : Nat} {x2 v3 : Int} {l3 l4 l5 : Option aV} {f1 : List aV} (h2 : h ar1 = cO 5 f1) (g4 : f1[8]? = some (vI v3)) (kt : v3 ≤ x2 → Rn d bc bs mX3_shortestUnclear 107 [some (vR r0), some (vR (some ar1)), some (vI x2), l3, l4, l5] [] h n Q) (kf : x2 < v3 → Rn d bc bs mX3_shortestUnclear 30 [some (vR r0), some (vR (some ar1)), some (vI x2), l3, l4, l5] [] h n Q) : Rn d (bc) (bs) mX3_shortestUnclear 22 [some (vR r0), some (vR (some ar1)), some (vI x2), l3, l4, l5] [] h n Q := by
  refine Rn_iload_n dX3_shortestUnclear_22 rfl rfl ?_
  refine Rn_aload_n dX3_shortestUnclear_23 rfl rfl rfl ?_
  refine Rn_getfield (ci := 5) (k := 8) dX3_shortestUnclear_24 rfl in_5 (Nat.le_of_ble_eq_true rfl) wd_257 rfl h2 g4 ?_
  refine Rn_icmpge (tgt := 107) dX3_shortestUnclear_27 rfl ?_ ?_
  · exact kt
  · exact kf
theorem BX3_shortestUnclear_30 {d bc bs : Nat} {h : aH} {n : Nat} {Q : aQ} {r0 r1 : Option Nat} {x2 : Int} {l3 l4 l5 : Option aV} (k : Rn d bc bs mX3_shortestUnclear 32 [some (vR r0), some (vR r1), some (vI x2), some (vI 0), l4, l5] [] h n Q) : Rn d (bc) (bs) mX3_shortestUnclear 30 [some (vR r0), some (vR r1), some (vI x2), l3, l4, l5] [] h n Q := by
  refine Rn_iconst dX3_shortestUnclear_30 rfl ?_
  refine Rn_istore_n dX3_shortestUnclear_31 rfl (Nat.le_of_ble_eq_true rfl) rfl rfl ?_
  exact k
theorem BX3_shortestUnclear_32 {d bc bs : Nat} {h : aH} {n : Nat} {Q : aQ} {r0 : Option Nat} {ar1 : Nat} {x2 x3 v3 : Int} {l4 l5 : Option aV} {f1 : List aV} (h2 : h ar1 = cO 5 f1) (g4 : f1[8]? = some (vI v3)) (kt : v3 ≤ x3 → Rn d bc bs mX3_shortestUnclear 101 [some (vR r0), some (vR (some ar1)), some (vI x2), some (vI x3), l4, l5] [] h n Q) (kf : x3 < v3 → Rn d bc bs mX3_shortestUnclear 40 [some (vR r0), some (vR (some ar1)), some (vI x2), some (vI x3), l4, l5] [] h n Q) : Rn d (bc) (bs) mX3_shortestUnclear 32 [some (vR r0), some (vR (some ar1)), some (vI x2), some (vI x3), l4, l5] [] h n Q := by
  refine Rn_iload_n dX3_shortestUnclear_32 rfl rfl ?_
  refine Rn_aload_n dX3_shortestUnclear_33 rfl rfl rfl ?_
  refine Rn_getfield (ci := 5) (k := 8) dX3_shortestUnclear_34 rfl in_5 (Nat.le_of_ble_eq_true rfl) wd_257 rfl h2 g4 ?_
  refine Rn_icmpge (tgt := 101) dX3_shortestUnclear_37 rfl ?_ ?_
  · exact kt
  · exact kf
theorem BX3_shortestUnclear_40 {d bc bs : Nat} {h : aH} {n : Nat} {Q : aQ} {r0 : Option Nat} {ar1 : Nat} {x2 x3 : Int} {l4 l5 : Option aV} {f1 : List aV} (h2 : h ar1 = cO 5 f1) (k : Rn d 0 0 mX5_word 0 [some (vR (some ar1)), some (vI x2)] [] h n (fun v h1 n1 => Rn (d + 1) bc bs mX3_shortestUnclear 45 [some (vR r0), some (vR (some ar1)), some (vI x2), some (vI x3), l4, l5] (v.toList ++ []) h1 n1 Q)) : Rn (d + 1) (bc) (bs) mX3_shortestUnclear 40 [some (vR r0), some (vR (some ar1)), some (vI x2), some (vI x3), l4, l5] [] h n Q := by
  refine Rn_aload_n dX3_shortestUnclear_40 rfl rfl rfl ?_
  refine Rn_iload_n dX3_shortestUnclear_41 rfl rfl ?_
  exact Rn_callV (ci := 5) (avs := [vI x2]) (st := []) (bc1 := 0) (bs1 := 0) (bc2 := bc) (bs2 := bs) fx_X5_word dX3_shortestUnclear_42 wd_1184 wd_1170 wd_1171 rfl h2 rfl (Nat.le_of_ble_eq_true rfl) (Nat.le_of_ble_eq_true rfl) (by omega) (by omega) (ls1 := [some (vR (some ar1)), some (vI x2)]) rfl k
theorem BX3_shortestUnclear_45 {d bc bs : Nat} {h : aH} {n : Nat} {Q : aQ} {r0 r1 : Option Nat} {x2 x3 s0 : Int} {l4 l5 : Option aV} (kt : x2 = x3 → Rn d bc bs mX3_shortestUnclear 69 [some (vR r0), some (vR r1), some (vI x2), some (vI x3), some (vI s0), l5] [] h n Q) (kf : x2 ≠ x3 → Rn d bc bs mX3_shortestUnclear 52 [some (vR r0), some (vR r1), some (vI x2), some (vI x3), some (vI s0), l5] [] h n Q) : Rn d (bc) (bs) mX3_shortestUnclear 45 [some (vR r0), some (vR r1), some (vI x2), some (vI x3), l4, l5] [vI s0] h n Q := by
  refine Rn_istore dX3_shortestUnclear_45 (Nat.le_of_ble_eq_true rfl) rfl rfl ?_
  refine Rn_iload_n dX3_shortestUnclear_47 rfl rfl ?_
  refine Rn_iload_n dX3_shortestUnclear_48 rfl rfl ?_
  refine Rn_icmpeq (tgt := 69) dX3_shortestUnclear_49 rfl ?_ ?_
  · exact kt
  · exact kf
theorem BX3_shortestUnclear_52 {d bc bs : Nat} {h : aH} {n : Nat} {Q : aQ} {r0 : Option Nat} {ar1 : Nat} {x2 x3 x4 : Int} {l5 : Option aV} {f1 : List aV} (h2 : h ar1 = cO 5 f1) (k : Rn d 0 0 mX5_word 0 [some (vR (some ar1)), some (vI x3)] [] h n (fun v h1 n1 => Rn (d + 1) bc bs mX3_shortestUnclear 59 [some (vR r0), some (vR (some ar1)), some (vI x2), some (vI x3), some (vI x4), l5] (v.toList ++ [vI x4]) h1 n1 Q)) : Rn (d + 1) (bc) (bs) mX3_shortestUnclear 52 [some (vR r0), some (vR (some ar1)), some (vI x2), some (vI x3), some (vI x4), l5] [] h n Q := by
  refine Rn_iload dX3_shortestUnclear_52 rfl ?_
  refine Rn_aload_n dX3_shortestUnclear_54 rfl rfl rfl ?_
  refine Rn_iload_n dX3_shortestUnclear_55 rfl rfl ?_
  exact Rn_callV (ci := 5) (avs := [vI x3]) (st := [vI x4]) (bc1 := 0) (bs1 := 0) (bc2 := bc) (bs2 := bs) fx_X5_word dX3_shortestUnclear_56 wd_1184 wd_1170 wd_1171 rfl h2 rfl (Nat.le_of_ble_eq_true rfl) (Nat.le_of_ble_eq_true rfl) (by omega) (by omega) (ls1 := [some (vR (some ar1)), some (vI x3)]) rfl k
theorem BX3_shortestUnclear_59 {d bc bs : Nat} {h : aH} {n : Nat} {Q : aQ} {r0 r1 : Option Nat} {x2 x3 x4 s0 s1 : Int} {l5 : Option aV} (k : Rn d 0 0 mX3_startsWith 0 [some (vI s0), some (vI s1), none] [] h n (fun v h1 n1 => Rn (d + 1) bc bs mX3_shortestUnclear 62 [some (vR r0), some (vR r1), some (vI x2), some (vI x3), some (vI x4), l5] (v.toList ++ []) h1 n1 Q)) : Rn (d + 1) (bc) (bs) mX3_shortestUnclear 59 [some (vR r0), some (vR r1), some (vI x2), some (vI x3), some (vI x4), l5] [vI s1, vI s0] h n Q := by
  exact Rn_callS (avs := [vI s0, vI s1]) (st := []) (bc1 := 0) (bs1 := 0) (bc2 := bc) (bs2 := bs) fx_X3_startsWith dX3_shortestUnclear_59 (Or.inl wd_1185) wd_1186 rfl (Nat.le_of_ble_eq_true rfl) (Nat.le_of_ble_eq_true rfl) (by omega) (by omega) (ls1 := [some (vI s0), some (vI s1), none]) rfl k
theorem BX3_shortestUnclear_62 {d bc bs : Nat} {h : aH} {n : Nat} {Q : aQ} {r0 r1 : Option Nat} {x2 x3 x4 s0 : Int} {l5 : Option aV} (kt : s0 = 0 → Rn d bc bs mX3_shortestUnclear 69 [some (vR r0), some (vR r1), some (vI x2), some (vI x3), some (vI x4), l5] [] h n Q) (kf : s0 ≠ 0 → Rn d bc bs mX3_shortestUnclear 65 [some (vR r0), some (vR r1), some (vI x2), some (vI x3), some (vI x4), l5] [] h n Q) : Rn d (bc) (bs) mX3_shortestUnclear 62 [some (vR r0), some (vR r1), some (vI x2), some (vI x3), some (vI x4), l5] [vI s0] h n Q := by
  refine Rn_ifeq (tgt := 69) dX3_shortestUnclear_62 rfl ?_ ?_
  · exact kt
  · exact kf
theorem BX3_shortestUnclear_65 {d bc bs : Nat} {h : aH} {n : Nat} {Q : aQ} {r0 r1 : Option Nat} {x2 x3 x4 : Int} {l5 : Option aV} (kt : (1 : Int) = 0 → Rn d bc bs mX3_shortestUnclear 95 [some (vR r0), some (vR r1), some (vI x2), some (vI x3), some (vI x4), some (vI 1)] [] h n Q) (kf : (1 : Int) ≠ 0 → Rn d bc bs mX3_shortestUnclear 77 [some (vR r0), some (vR r1), some (vI x2), some (vI x3), some (vI x4), some (vI 1)] [] h n Q) : Rn d (bc) (bs) mX3_shortestUnclear 65 [some (vR r0), some (vR r1), some (vI x2), some (vI x3), some (vI x4), l5] [] h n Q := by
  refine Rn_iconst dX3_shortestUnclear_65 rfl ?_
  refine Rn_goto (tgt := 70) dX3_shortestUnclear_66 rfl ?_
  refine Rn_istore dX3_shortestUnclear_70 (Nat.le_of_ble_eq_true rfl) rfl rfl ?_
  refine Rn_iload dX3_shortestUnclear_72 rfl ?_
  refine Rn_ifeq (tgt := 95) dX3_shortestUnclear_74 rfl ?_ ?_
  · exact kt
  · exact kf
theorem BX3_shortestUnclear_69 {d bc bs : Nat} {h : aH} {n : Nat} {Q : aQ} {r0 r1 : Option Nat} {x2 x3 x4 : Int} {l5 : Option aV} (kt : (0 : Int) = 0 → Rn d bc bs mX3_shortestUnclear 95 [some (vR r0), some (vR r1), some (vI x2), some (vI x3), some (vI x4), some (vI 0)] [] h n Q) (kf : (0 : Int) ≠ 0 → Rn d bc bs mX3_shortestUnclear 77 [some (vR r0), some (vR r1), some (vI x2), some (vI x3), some (vI x4), some (vI 0)] [] h n Q) : Rn d (bc) (bs) mX3_shortestUnclear 69 [some (vR r0), some (vR r1), some (vI x2), some (vI x3), some (vI x4), l5] [] h n Q := by
  refine Rn_iconst dX3_shortestUnclear_69 rfl ?_
  refine Rn_istore dX3_shortestUnclear_70 (Nat.le_of_ble_eq_true rfl) rfl rfl ?_
  refine Rn_iload dX3_shortestUnclear_72 rfl ?_
  refine Rn_ifeq (tgt := 95) dX3_shortestUnclear_74 rfl ?_ ?_
  · exact kt
  · exact kf
theorem BX3_shortestUnclear_77 {d bc bs : Nat} {h : aH} {n : Nat} {Q : aQ} {r0 : Option Nat} {ar1 : Nat} {x2 x3 x4 x5 : Int} {f1 : List aV} (h2 : h ar1 = cO 5 f1) (k : Rn d 0 0 mX5_word 0 [some (vR (some ar1)), some (vI x3)] [] h n (fun v h1 n1 => Rn (d + 1) bc bs mX3_shortestUnclear 84 [some (vR r0), some (vR (some ar1)), some (vI x2), some (vI x3), some (vI x4), some (vI x5)] (v.toList ++ [vI x2, vR r0]) h1 n1 Q)) : Rn (d + 1) (bc) (bs) mX3_shortestUnclear 77 [some (vR r0), some (vR (some ar1)), some (vI x2), some (vI x3), some (vI x4), some (vI x5)] [] h n Q := by
  refine Rn_aload_n dX3_shortestUnclear_77 rfl rfl rfl ?_
  refine Rn_iload_n dX3_shortestUnclear_78 rfl rfl ?_
  refine Rn_aload_n dX3_shortestUnclear_79 rfl rfl rfl ?_
  refine Rn_iload_n dX3_shortestUnclear_80 rfl rfl ?_
  exact Rn_callV (ci := 5) (avs := [vI x3]) (st := [vI x2, vR r0]) (bc1 := 0) (bs1 := 0) (bc2 := bc) (bs2 := bs) fx_X5_word dX3_shortestUnclear_81 wd_1184 wd_1170 wd_1171 rfl h2 rfl (Nat.le_of_ble_eq_true rfl) (Nat.le_of_ble_eq_true rfl) (by omega) (by omega) (ls1 := [some (vR (some ar1)), some (vI x3)]) rfl k
theorem BX3_shortestUnclear_84 {d bc bs : Nat} {h : aH} {n : Nat} {Q : aQ} {r0 r1 q0 : Option Nat} {x2 x3 x4 x5 s1 s2 : Int} (k : Rn d 0 0 mX3_digitsOf 0 [some (vI s2), none, none] [] h n (fun v h1 n1 => Rn (d + 1) bc bs mX3_shortestUnclear 87 [some (vR r0), some (vR r1), some (vI x2), some (vI x3), some (vI x4), some (vI x5)] (v.toList ++ [vI s1, vR q0]) h1 n1 Q)) : Rn (d + 1) (bc) (bs) mX3_shortestUnclear 84 [some (vR r0), some (vR r1), some (vI x2), some (vI x3), some (vI x4), some (vI x5)] [vI s2, vI s1, vR q0] h n Q := by
  exact Rn_callS (avs := [vI s2]) (st := [vI s1, vR q0]) (bc1 := 0) (bs1 := 0) (bc2 := bc) (bs2 := bs) fx_X3_digitsOf dX3_shortestUnclear_84 (Or.inl wd_1188) wd_1189 rfl (Nat.le_of_ble_eq_true rfl) (Nat.le_of_ble_eq_true rfl) (by omega) (by omega) (ls1 := [some (vI s2), none, none]) rfl k
theorem BX3_shortestUnclear_87 {d bc bs : Nat} {h : aH} {n : Nat} {Q : aQ} {r0 r1 q0 : Option Nat} {x2 x3 x4 x5 s1 s2 : Int} (k : Rn d 0 0 mX3_digitsOf 0 [some (vI x4), none, none] [] h n (fun v h1 n1 => Rn (d + 1) bc bs mX3_shortestUnclear 92 [some (vR r0), some (vR r1), some (vI x2), some (vI x3), some (vI x4), some (vI x5)] (v.toList ++ [vI s2, vI s1, vR q0]) h1 n1 Q)) : Rn (d + 1) (bc) (bs) mX3_shortestUnclear 87 [some (vR r0), some (vR r1), some (vI x2), some (vI x3), some (vI x4), some (vI x5)] [vI s2, vI s1, vR q0] h n Q := by
  refine Rn_iload dX3_shortestUnclear_87 rfl ?_
  exact Rn_callS (avs := [vI x4]) (st := [vI s2, vI s1, vR q0]) (bc1 := 0) (bs1 := 0) (bc2 := bc) (bs2 := bs) fx_X3_digitsOf dX3_shortestUnclear_89 (Or.inl wd_1188) wd_1189 rfl (Nat.le_of_ble_eq_true rfl) (Nat.le_of_ble_eq_true rfl) (by omega) (by omega) (ls1 := [some (vI x4), none, none]) rfl k
theorem BX3_shortestUnclear_92 {d bc bs : Nat} {h : aH} {n : Nat} {Q : aQ} {r0 r1 : Option Nat} {x2 x3 x4 x5 s1 s2 s3 : Int} {aq0 : Nat} {f1 : List aV} (h2 : h aq0 = cO 3 f1) (k : Rn d 0 0 mX3_come 0 [some (vR (some aq0)), some (vI s1), some (vI s2), some (vI s3), none] [] h n (fun v h1 n1 => Rn (d + 1) bc bs mX3_shortestUnclear 95 [some (vR r0), some (vR r1), some (vI x2), some (vI x3), some (vI x4), some (vI x5)] (v.toList ++ []) h1 n1 Q)) : Rn (d + 1) (bc) (bs) mX3_shortestUnclear 92 [some (vR r0), some (vR r1), some (vI x2), some (vI x3), some (vI x4), some (vI x5)] [vI s3, vI s2, vI s1, vR (some aq0)] h n Q := by
  exact Rn_callV (ci := 3) (avs := [vI s1, vI s2, vI s3]) (st := []) (bc1 := 0) (bs1 := 0) (bc2 := bc) (bs2 := bs) fx_X3_come dX3_shortestUnclear_92 wd_1197 wd_1199 wd_41 rfl h2 rfl (Nat.le_of_ble_eq_true rfl) (Nat.le_of_ble_eq_true rfl) (by omega) (by omega) (ls1 := [some (vR (some aq0)), some (vI s1), some (vI s2), some (vI s3), none]) rfl k
theorem BX3_shortestUnclear_95 {d bc bs : Nat} {h : aH} {n : Nat} {Q : aQ} {r0 r1 : Option Nat} {x2 x3 x4 x5 : Int} (b1 : -2147483648 ≤ x3 + 1 ∧ x3 + 1 < 2147483648) (k : Rn d bc bs mX3_shortestUnclear 32 [some (vR r0), some (vR r1), some (vI x2), some (vI (x3 + 1)), some (vI x4), some (vI x5)] [] h n Q) : Rn d (bc) (bs) mX3_shortestUnclear 95 [some (vR r0), some (vR r1), some (vI x2), some (vI x3), some (vI x4), some (vI x5)] [] h n Q := by
  refine Rn_iinc dX3_shortestUnclear_95 rfl (Nat.le_of_ble_eq_true rfl) rfl rfl rfl ?_
  rw [w32_id b1.1 b1.2]
  refine Rn_goto (tgt := 32) dX3_shortestUnclear_98 rfl ?_
  exact k
theorem BX3_shortestUnclear_101 {d bc bs : Nat} {h : aH} {n : Nat} {Q : aQ} {r0 r1 : Option Nat} {x2 x3 : Int} {l4 l5 : Option aV} (b1 : -2147483648 ≤ x2 + 1 ∧ x2 + 1 < 2147483648) (k : Rn d bc bs mX3_shortestUnclear 22 [some (vR r0), some (vR r1), some (vI (x2 + 1)), some (vI x3), l4, l5] [] h n Q) : Rn d (bc) (bs) mX3_shortestUnclear 101 [some (vR r0), some (vR r1), some (vI x2), some (vI x3), l4, l5] [] h n Q := by
  refine Rn_iinc dX3_shortestUnclear_101 rfl (Nat.le_of_ble_eq_true rfl) rfl rfl rfl ?_
  rw [w32_id b1.1 b1.2]
  refine Rn_goto (tgt := 22) dX3_shortestUnclear_104 rfl ?_
  exact k
theorem BX3_shortestUnclear_107 {d bc bs : Nat} {h : aH} {n : Nat} {Q : aQ} {r0 r1 : Option Nat} {x2 : Int} {l3 l4 l5 : Option aV} (k : Rn d bc bs mX3_shortestUnclear 109 [some (vR r0), some (vR r1), some (vI 0), l3, l4, l5] [] h n Q) : Rn d (bc) (bs) mX3_shortestUnclear 107 [some (vR r0), some (vR r1), some (vI x2), l3, l4, l5] [] h n Q := by
  refine Rn_iconst dX3_shortestUnclear_107 rfl ?_
  refine Rn_istore_n dX3_shortestUnclear_108 rfl (Nat.le_of_ble_eq_true rfl) rfl rfl ?_
  exact k
theorem BX3_shortestUnclear_109 {d bc bs : Nat} {h : aH} {n : Nat} {Q : aQ} {ar0 at3 : Nat} {r1 : Option Nat} {x2 : Int} {l3 l4 l5 : Option aV} {f1 : List aV} {w5 : List Int} (h2 : h ar0 = cO 3 f1) (g4 : f1[0]? = some (vR (some at3))) (h6 : h at3 = cI w5) (y7 : w5.length < 2147483648) (z8 : at3 ≠ 0) (kt : (w5.length : Int) ≤ x2 → Rn d bc bs mX3_shortestUnclear 141 [some (vR (some ar0)), some (vR r1), some (vI x2), l3, l4, l5] [] h n Q) (kf : x2 < (w5.length : Int) → Rn d bc bs mX3_shortestUnclear 118 [some (vR (some ar0)), some (vR r1), some (vI x2), l3, l4, l5] [] h n Q) : Rn d (bc) (bs) mX3_shortestUnclear 109 [some (vR (some ar0)), some (vR r1), some (vI x2), l3, l4, l5] [] h n Q := by
  refine Rn_iload_n dX3_shortestUnclear_109 rfl rfl ?_
  refine Rn_aload_n dX3_shortestUnclear_110 rfl rfl rfl ?_
  refine Rn_getfield (ci := 3) (k := 0) dX3_shortestUnclear_111 rfl in_3 (Nat.le_of_ble_eq_true rfl) wd_438 rfl h2 g4 ?_
  refine Rn_alenI dX3_shortestUnclear_114 z8 h6 y7 ?_
  refine Rn_icmpge (tgt := 141) dX3_shortestUnclear_115 rfl ?_ ?_
  · exact kt
  · exact kf
theorem BX3_shortestUnclear_118 {d bc bs : Nat} {h : aH} {n : Nat} {Q : aQ} {ar0 : Nat} {r1 : Option Nat} {x2 v3 : Int} {l3 l4 l5 : Option aV} {f1 : List aV} (h2 : h ar0 = cO 3 f1) (g4 : f1[5]? = some (vI v3)) (kt : v3 = 0 → Rn d bc bs mX3_shortestUnclear 141 [some (vR (some ar0)), some (vR r1), some (vI x2), l3, l4, l5] [] h n Q) (kf : v3 ≠ 0 → Rn d bc bs mX3_shortestUnclear 125 [some (vR (some ar0)), some (vR r1), some (vI x2), l3, l4, l5] [] h n Q) : Rn d (bc) (bs) mX3_shortestUnclear 118 [some (vR (some ar0)), some (vR r1), some (vI x2), l3, l4, l5] [] h n Q := by
  refine Rn_aload_n dX3_shortestUnclear_118 rfl rfl rfl ?_
  refine Rn_getfield (ci := 3) (k := 5) dX3_shortestUnclear_119 rfl in_3 (Nat.le_of_ble_eq_true rfl) wd_443 rfl h2 g4 ?_
  refine Rn_ifeq (tgt := 141) dX3_shortestUnclear_122 rfl ?_ ?_
  · exact kt
  · exact kf
theorem BX3_shortestUnclear_125 {d bc bs : Nat} {h : aH} {n : Nat} {Q : aQ} {ar0 : Nat} {r1 : Option Nat} {x2 : Int} {l3 l4 l5 : Option aV} {f1 : List aV} (h2 : h ar0 = cO 3 f1) (m3 : 5 < f1.length) (k : Rn d bc bs mX3_shortestUnclear 130 [some (vR (some ar0)), some (vR r1), some (vI x2), l3, l4, l5] [] (up h ar0 (cO 3 (f1.set 5 (vI 0)))) n Q) : Rn d (bc) (bs) mX3_shortestUnclear 125 [some (vR (some ar0)), some (vR r1), some (vI x2), l3, l4, l5] [] h n Q := by
  refine Rn_aload_n dX3_shortestUnclear_125 rfl rfl rfl ?_
  refine Rn_iconst dX3_shortestUnclear_126 rfl ?_
  refine Rn_putfield (ci := 3) (k := 5) dX3_shortestUnclear_127 rfl in_3 tyX3_ok nmX3 (Nat.le_of_ble_eq_true rfl) wd_443 rfl (Or.inl rfl) (show (0 : Int) = 0 ∨ (0 : Int) = 1 by decide) m3 h2 ?_
  exact k
theorem BX3_shortestUnclear_130 {d bc bs : Nat} {h : aH} {n : Nat} {Q : aQ} {ar0 : Nat} {r1 : Option Nat} {x2 : Int} {l3 l4 l5 : Option aV} {f1 : List aV} (h2 : h ar0 = cO 3 f1) (k : Rn d 0 0 mX3_passOver 0 [some (vR (some ar0)), some (vR r1), none, none, none, none] [] h n (fun v h1 n1 => Rn (d + 1) bc bs mX3_shortestUnclear 135 [some (vR (some ar0)), some (vR r1), some (vI x2), l3, l4, l5] (v.toList ++ []) h1 n1 Q)) : Rn (d + 1) (bc) (bs) mX3_shortestUnclear 130 [some (vR (some ar0)), some (vR r1), some (vI x2), l3, l4, l5] [] h n Q := by
  refine Rn_aload_n dX3_shortestUnclear_130 rfl rfl rfl ?_
  refine Rn_aload_n dX3_shortestUnclear_131 rfl rfl rfl ?_
  exact Rn_callV (ci := 3) (avs := [vR r1]) (st := []) (bc1 := 0) (bs1 := 0) (bc2 := bc) (bs2 := bs) fx_X3_passOver dX3_shortestUnclear_132 wd_1203 wd_1205 wd_42 rfl h2 rfl (Nat.le_of_ble_eq_true rfl) (Nat.le_of_ble_eq_true rfl) (by omega) (by omega) (ls1 := [some (vR (some ar0)), some (vR r1), none, none, none, none]) rfl k
theorem BX3_shortestUnclear_135 {d bc bs : Nat} {h : aH} {n : Nat} {Q : aQ} {r0 r1 : Option Nat} {x2 : Int} {l3 l4 l5 : Option aV} (b1 : -2147483648 ≤ x2 + 1 ∧ x2 + 1 < 2147483648) (k : Rn d bc bs mX3_shortestUnclear 109 [some (vR r0), some (vR r1), some (vI (x2 + 1)), l3, l4, l5] [] h n Q) : Rn d (bc) (bs) mX3_shortestUnclear 135 [some (vR r0), some (vR r1), some (vI x2), l3, l4, l5] [] h n Q := by
  refine Rn_iinc dX3_shortestUnclear_135 rfl (Nat.le_of_ble_eq_true rfl) rfl rfl rfl ?_
  rw [w32_id b1.1 b1.2]
  refine Rn_goto (tgt := 109) dX3_shortestUnclear_138 rfl ?_
  exact k
theorem BX3_shortestUnclear_141 {d bc bs : Nat} {h : aH} {n : Nat} {Q : aQ} {ar0 : Nat} {r1 : Option Nat} {x2 v3 : Int} {l3 l4 l5 : Option aV} {f1 : List aV} (h2 : h ar0 = cO 3 f1) (g4 : f1[4]? = some (vI v3)) (kt : v3 ≠ 1000000 → Rn d bc bs mX3_shortestUnclear 154 [some (vR (some ar0)), some (vR r1), some (vI x2), l3, l4, l5] [] h n Q) (kf : v3 = 1000000 → Rn d bc bs mX3_shortestUnclear 150 [some (vR (some ar0)), some (vR r1), some (vI x2), l3, l4, l5] [] h n Q) : Rn d (bc) (bs) mX3_shortestUnclear 141 [some (vR (some ar0)), some (vR r1), some (vI x2), l3, l4, l5] [] h n Q := by
  refine Rn_aload_n dX3_shortestUnclear_141 rfl rfl rfl ?_
  refine Rn_getfield (ci := 3) (k := 4) dX3_shortestUnclear_142 rfl in_3 (Nat.le_of_ble_eq_true rfl) wd_442 rfl h2 g4 ?_
  refine Rn_ldc dX3_shortestUnclear_145 wd_437 rfl ?_
  refine Rn_icmpne (tgt := 154) dX3_shortestUnclear_147 rfl ?_ ?_
  · exact kt
  · exact kf
theorem BX3_shortestUnclear_150 {d bc bs : Nat} {h : aH} {n : Nat} {Q : aQ} {r0 r1 : Option Nat} {x2 : Int} {l3 l4 l5 : Option aV} (k : Q (some (vI (-1))) h n) : Rn d (bc) (bs) mX3_shortestUnclear 150 [some (vR r0), some (vR r1), some (vI x2), l3, l4, l5] [] h n Q := by
  refine Rn_iconst dX3_shortestUnclear_150 rfl ?_
  refine Rn_goto (tgt := 158) dX3_shortestUnclear_151 rfl ?_
  exact Rn_ireturn rfl dX3_shortestUnclear_158 k
theorem BX3_shortestUnclear_154 {d bc bs : Nat} {h : aH} {n : Nat} {Q : aQ} {ar0 : Nat} {r1 : Option Nat} {x2 v3 : Int} {l3 l4 l5 : Option aV} {f1 : List aV} (h2 : h ar0 = cO 3 f1) (g4 : f1[4]? = some (vI v3)) (k : Q (some (vI v3)) h n) : Rn d (bc) (bs) mX3_shortestUnclear 154 [some (vR (some ar0)), some (vR r1), some (vI x2), l3, l4, l5] [] h n Q := by
  refine Rn_aload_n dX3_shortestUnclear_154 rfl rfl rfl ?_
  refine Rn_getfield (ci := 3) (k := 4) dX3_shortestUnclear_155 rfl in_3 (Nat.le_of_ble_eq_true rfl) wd_442 rfl h2 g4 ?_
  exact Rn_ireturn rfl dX3_shortestUnclear_158 k
theorem dX3_passOver_0 : decode cX3_passOver 0 = .ok (.iconst 0, 1) := by decide +kernel
theorem dX3_passOver_1 : decode cX3_passOver 1 = .ok (.istore_n 2, 1) := by decide +kernel
theorem dX3_passOver_2 : decode cX3_passOver 2 = .ok (.iload_n 2, 1) := by decide +kernel
theorem dX3_passOver_3 : decode cX3_passOver 3 = .ok (.aload_n 1, 1) := by decide +kernel
theorem dX3_passOver_4 : decode cX3_passOver 4 = .ok (.getfield 55, 3) := by decide +kernel
theorem dX3_passOver_7 : decode cX3_passOver 7 = .ok (.if_icmp .ge 75, 3) := by decide +kernel
theorem dX3_passOver_10 : decode cX3_passOver 10 = .ok (.iconst 1, 1) := by decide +kernel
theorem dX3_passOver_11 : decode cX3_passOver 11 = .ok (.istore_n 3, 1) := by decide +kernel
theorem dX3_passOver_12 : decode cX3_passOver 12 = .ok (.iload_n 3, 1) := by decide +kernel
theorem dX3_passOver_13 : decode cX3_passOver 13 = .ok (.iconst 4, 1) := by decide +kernel
theorem dX3_passOver_14 : decode cX3_passOver 14 = .ok (.if_icmp .ge 62, 3) := by decide +kernel
theorem dX3_passOver_17 : decode cX3_passOver 17 = .ok (.aload_n 0, 1) := by decide +kernel
theorem dX3_passOver_18 : decode cX3_passOver 18 = .ok (.getfield 11, 3) := by decide +kernel
theorem dX3_passOver_21 : decode cX3_passOver 21 = .ok (.iload_n 2, 1) := by decide +kernel
theorem dX3_passOver_22 : decode cX3_passOver 22 = .ok (.iconst 4, 1) := by decide +kernel
theorem dX3_passOver_23 : decode cX3_passOver 23 = .ok (.imul, 1) := by decide +kernel
theorem dX3_passOver_24 : decode cX3_passOver 24 = .ok (.iload_n 3, 1) := by decide +kernel
theorem dX3_passOver_25 : decode cX3_passOver 25 = .ok (.iadd, 1) := by decide +kernel
theorem dX3_passOver_26 : decode cX3_passOver 26 = .ok (.invokestatic 75, 3) := by decide +kernel
theorem dX3_passOver_29 : decode cX3_passOver 29 = .ok (.istore 4, 2) := by decide +kernel
theorem dX3_passOver_31 : decode cX3_passOver 31 = .ok (.iload 4, 2) := by decide +kernel
theorem dX3_passOver_33 : decode cX3_passOver 33 = .ok (.ldc 25, 2) := by decide +kernel
theorem dX3_passOver_35 : decode cX3_passOver 35 = .ok (.if_icmp .lt 6, 3) := by decide +kernel
theorem dX3_passOver_38 : decode cX3_passOver 38 = .ok (.goto 32, 3) := by decide +kernel
theorem dX3_passOver_41 : decode cX3_passOver 41 = .ok (.iconst 0, 1) := by decide +kernel
theorem dX3_passOver_42 : decode cX3_passOver 42 = .ok (.istore 5, 2) := by decide +kernel
theorem dX3_passOver_44 : decode cX3_passOver 44 = .ok (.iload 5, 2) := by decide +kernel
theorem dX3_passOver_46 : decode cX3_passOver 46 = .ok (.aload_n 1, 1) := by decide +kernel
theorem dX3_passOver_47 : decode cX3_passOver 47 = .ok (.getfield 55, 3) := by decide +kernel
theorem dX3_passOver_50 : decode cX3_passOver 50 = .ok (.if_icmp .ge 20, 3) := by decide +kernel
theorem dX3_passOver_53 : decode cX3_passOver 53 = .ok (.aload_n 0, 1) := by decide +kernel
theorem dX3_passOver_54 : decode cX3_passOver 54 = .ok (.aload_n 1, 1) := by decide +kernel
theorem dX3_passOver_55 : decode cX3_passOver 55 = .ok (.iload_n 2, 1) := by decide +kernel
theorem dX3_passOver_56 : decode cX3_passOver 56 = .ok (.iload_n 3, 1) := by decide +kernel
theorem dX3_passOver_57 : decode cX3_passOver 57 = .ok (.iload 5, 2) := by decide +kernel
theorem dX3_passOver_59 : decode cX3_passOver 59 = .ok (.iload 4, 2) := by decide +kernel
theorem dX3_passOver_61 : decode cX3_passOver 61 = .ok (.invokevirtual 79, 3) := by decide +kernel
theorem dX3_passOver_64 : decode cX3_passOver 64 = .ok (.iinc 5 1, 3) := by decide +kernel
theorem dX3_passOver_67 : decode cX3_passOver 67 = .ok (.goto (-23), 3) := by decide +kernel
theorem dX3_passOver_70 : decode cX3_passOver 70 = .ok (.iinc 3 1, 3) := by decide +kernel
theorem dX3_passOver_73 : decode cX3_passOver 73 = .ok (.goto (-61), 3) := by decide +kernel
theorem dX3_passOver_76 : decode cX3_passOver 76 = .ok (.iinc 2 1, 3) := by decide +kernel
theorem dX3_passOver_79 : decode cX3_passOver 79 = .ok (.goto (-77), 3) := by decide +kernel
theorem dX3_passOver_82 : decode cX3_passOver 82 = .ok (.return_, 1) := by decide +kernel
theorem BX3_passOver_0 {d bc bs : Nat} {h : aH} {n : Nat} {Q : aQ} {r0 r1 : Option Nat} {l2 l3 l4 l5 : Option aV} (k : Rn d bc bs mX3_passOver 2 [some (vR r0), some (vR r1), some (vI 0), l3, l4, l5] [] h n Q) : Rn d (bc) (bs) mX3_passOver 0 [some (vR r0), some (vR r1), l2, l3, l4, l5] [] h n Q := by
  refine Rn_iconst dX3_passOver_0 rfl ?_
  refine Rn_istore_n dX3_passOver_1 rfl (Nat.le_of_ble_eq_true rfl) rfl rfl ?_
  exact k
theorem BX3_passOver_2 {d bc bs : Nat} {h : aH} {n : Nat} {Q : aQ} {r0 : Option Nat} {ar1 : Nat} {x2 v3 : Int} {l3 l4 l5 : Option aV} {f1 : List aV} (h2 : h ar1 = cO 5 f1) (g4 : f1[8]? = some (vI v3)) (kt : v3 ≤ x2 → Rn d bc bs mX3_passOver 82 [some (vR r0), some (vR (some ar1)), some (vI x2), l3, l4, l5] [] h n Q) (kf : x2 < v3 → Rn d bc bs mX3_passOver 10 [some (vR r0), some (vR (some ar1)), some (vI x2), l3, l4, l5] [] h n Q) : Rn d (bc) (bs) mX3_passOver 2 [some (vR r0), some (vR (some ar1)), some (vI x2), l3, l4, l5] [] h n Q := by
  refine Rn_iload_n dX3_passOver_2 rfl rfl ?_
  refine Rn_aload_n dX3_passOver_3 rfl rfl rfl ?_
  refine Rn_getfield (ci := 5) (k := 8) dX3_passOver_4 rfl in_5 (Nat.le_of_ble_eq_true rfl) wd_257 rfl h2 g4 ?_
  refine Rn_icmpge (tgt := 82) dX3_passOver_7 rfl ?_ ?_
  · exact kt
  · exact kf
theorem BX3_passOver_10 {d bc bs : Nat} {h : aH} {n : Nat} {Q : aQ} {r0 r1 : Option Nat} {x2 : Int} {l3 l4 l5 : Option aV} (k : Rn d bc bs mX3_passOver 12 [some (vR r0), some (vR r1), some (vI x2), some (vI 1), l4, l5] [] h n Q) : Rn d (bc) (bs) mX3_passOver 10 [some (vR r0), some (vR r1), some (vI x2), l3, l4, l5] [] h n Q := by
  refine Rn_iconst dX3_passOver_10 rfl ?_
  refine Rn_istore_n dX3_passOver_11 rfl (Nat.le_of_ble_eq_true rfl) rfl rfl ?_
  exact k
theorem BX3_passOver_12 {d bc bs : Nat} {h : aH} {n : Nat} {Q : aQ} {r0 r1 : Option Nat} {x2 x3 : Int} {l4 l5 : Option aV} (kt : 4 ≤ x3 → Rn d bc bs mX3_passOver 76 [some (vR r0), some (vR r1), some (vI x2), some (vI x3), l4, l5] [] h n Q) (kf : x3 < 4 → Rn d bc bs mX3_passOver 17 [some (vR r0), some (vR r1), some (vI x2), some (vI x3), l4, l5] [] h n Q) : Rn d (bc) (bs) mX3_passOver 12 [some (vR r0), some (vR r1), some (vI x2), some (vI x3), l4, l5] [] h n Q := by
  refine Rn_iload_n dX3_passOver_12 rfl rfl ?_
  refine Rn_iconst dX3_passOver_13 rfl ?_
  refine Rn_icmpge (tgt := 76) dX3_passOver_14 rfl ?_ ?_
  · exact kt
  · exact kf
theorem BX3_passOver_17 {d bc bs : Nat} {h : aH} {n : Nat} {Q : aQ} {ar0 : Nat} {r1 t3 : Option Nat} {x2 x3 : Int} {l4 l5 : Option aV} {f1 : List aV} (h2 : h ar0 = cO 3 f1) (g4 : f1[0]? = some (vR t3)) (b5 : -2147483648 ≤ x2 * 4 ∧ x2 * 4 < 2147483648) (b6 : -2147483648 ≤ (x2 * 4) + x3 ∧ (x2 * 4) + x3 < 2147483648) (k : Rn d 0 0 mX12_cell 0 [some (vR t3), some (vI ((x2 * 4) + x3))] [] h n (fun v h1 n1 => Rn (d + 1) bc bs mX3_passOver 29 [some (vR (some ar0)), some (vR r1), some (vI x2), some (vI x3), l4, l5] (v.toList ++ []) h1 n1 Q)) : Rn (d + 1) (bc) (bs) mX3_passOver 17 [some (vR (some ar0)), some (vR r1), some (vI x2), some (vI x3), l4, l5] [] h n Q := by
  refine Rn_aload_n dX3_passOver_17 rfl rfl rfl ?_
  refine Rn_getfield (ci := 3) (k := 0) dX3_passOver_18 rfl in_3 (Nat.le_of_ble_eq_true rfl) wd_438 rfl h2 g4 ?_
  refine Rn_iload_n dX3_passOver_21 rfl rfl ?_
  refine Rn_iconst dX3_passOver_22 rfl ?_
  refine Rn_imul dX3_passOver_23 ?_
  rw [w32_id b5.1 b5.2]
  refine Rn_iload_n dX3_passOver_24 rfl rfl ?_
  refine Rn_iadd dX3_passOver_25 ?_
  rw [w32_id b6.1 b6.2]
  exact Rn_callS (avs := [vR t3, vI ((x2 * 4) + x3)]) (st := []) (bc1 := 0) (bs1 := 0) (bc2 := bc) (bs2 := bs) fx_X12_cell dX3_passOver_26 (Or.inr ⟨"BottledPost", List.mem_of_getElem? (i := 27) rfl⟩) wd_967 rfl (Nat.le_of_ble_eq_true rfl) (Nat.le_of_ble_eq_true rfl) (by omega) (by omega) (ls1 := [some (vR t3), some (vI ((x2 * 4) + x3))]) rfl k
theorem BX3_passOver_29 {d bc bs : Nat} {h : aH} {n : Nat} {Q : aQ} {r0 r1 : Option Nat} {x2 x3 s0 : Int} {l4 l5 : Option aV} (kt : s0 < 1000000 → Rn d bc bs mX3_passOver 41 [some (vR r0), some (vR r1), some (vI x2), some (vI x3), some (vI s0), l5] [] h n Q) (kf : 1000000 ≤ s0 → Rn d bc bs mX3_passOver 38 [some (vR r0), some (vR r1), some (vI x2), some (vI x3), some (vI s0), l5] [] h n Q) : Rn d (bc) (bs) mX3_passOver 29 [some (vR r0), some (vR r1), some (vI x2), some (vI x3), l4, l5] [vI s0] h n Q := by
  refine Rn_istore dX3_passOver_29 (Nat.le_of_ble_eq_true rfl) rfl rfl ?_
  refine Rn_iload dX3_passOver_31 rfl ?_
  refine Rn_ldc dX3_passOver_33 wd_437 rfl ?_
  refine Rn_icmplt (tgt := 41) dX3_passOver_35 rfl ?_ ?_
  · exact kt
  · exact kf
theorem BX3_passOver_38 {d bc bs : Nat} {h : aH} {n : Nat} {Q : aQ} {r0 r1 : Option Nat} {x2 x3 x4 : Int} {l5 : Option aV} (b1 : -2147483648 ≤ x3 + 1 ∧ x3 + 1 < 2147483648) (k : Rn d bc bs mX3_passOver 12 [some (vR r0), some (vR r1), some (vI x2), some (vI (x3 + 1)), some (vI x4), l5] [] h n Q) : Rn d (bc) (bs) mX3_passOver 38 [some (vR r0), some (vR r1), some (vI x2), some (vI x3), some (vI x4), l5] [] h n Q := by
  refine Rn_goto (tgt := 70) dX3_passOver_38 rfl ?_
  refine Rn_iinc dX3_passOver_70 rfl (Nat.le_of_ble_eq_true rfl) rfl rfl rfl ?_
  rw [w32_id b1.1 b1.2]
  refine Rn_goto (tgt := 12) dX3_passOver_73 rfl ?_
  exact k
theorem BX3_passOver_41 {d bc bs : Nat} {h : aH} {n : Nat} {Q : aQ} {r0 r1 : Option Nat} {x2 x3 x4 : Int} {l5 : Option aV} (k : Rn d bc bs mX3_passOver 44 [some (vR r0), some (vR r1), some (vI x2), some (vI x3), some (vI x4), some (vI 0)] [] h n Q) : Rn d (bc) (bs) mX3_passOver 41 [some (vR r0), some (vR r1), some (vI x2), some (vI x3), some (vI x4), l5] [] h n Q := by
  refine Rn_iconst dX3_passOver_41 rfl ?_
  refine Rn_istore dX3_passOver_42 (Nat.le_of_ble_eq_true rfl) rfl rfl ?_
  exact k
theorem BX3_passOver_44 {d bc bs : Nat} {h : aH} {n : Nat} {Q : aQ} {r0 : Option Nat} {ar1 : Nat} {x2 x3 x4 x5 v3 : Int} {f1 : List aV} (h2 : h ar1 = cO 5 f1) (g4 : f1[8]? = some (vI v3)) (kt : v3 ≤ x5 → Rn d bc bs mX3_passOver 70 [some (vR r0), some (vR (some ar1)), some (vI x2), some (vI x3), some (vI x4), some (vI x5)] [] h n Q) (kf : x5 < v3 → Rn d bc bs mX3_passOver 53 [some (vR r0), some (vR (some ar1)), some (vI x2), some (vI x3), some (vI x4), some (vI x5)] [] h n Q) : Rn d (bc) (bs) mX3_passOver 44 [some (vR r0), some (vR (some ar1)), some (vI x2), some (vI x3), some (vI x4), some (vI x5)] [] h n Q := by
  refine Rn_iload dX3_passOver_44 rfl ?_
  refine Rn_aload_n dX3_passOver_46 rfl rfl rfl ?_
  refine Rn_getfield (ci := 5) (k := 8) dX3_passOver_47 rfl in_5 (Nat.le_of_ble_eq_true rfl) wd_257 rfl h2 g4 ?_
  refine Rn_icmpge (tgt := 70) dX3_passOver_50 rfl ?_ ?_
  · exact kt
  · exact kf
theorem BX3_passOver_53 {d bc bs : Nat} {h : aH} {n : Nat} {Q : aQ} {ar0 : Nat} {r1 : Option Nat} {x2 x3 x4 x5 : Int} {f1 : List aV} (h2 : h ar0 = cO 3 f1) (k : Rn d 0 0 mX3_putBehind 0 [some (vR (some ar0)), some (vR r1), some (vI x2), some (vI x3), some (vI x5), some (vI x4), none, none, none, none] [] h n (fun v h1 n1 => Rn (d + 1) bc bs mX3_passOver 64 [some (vR (some ar0)), some (vR r1), some (vI x2), some (vI x3), some (vI x4), some (vI x5)] (v.toList ++ []) h1 n1 Q)) : Rn (d + 1) (bc) (bs) mX3_passOver 53 [some (vR (some ar0)), some (vR r1), some (vI x2), some (vI x3), some (vI x4), some (vI x5)] [] h n Q := by
  refine Rn_aload_n dX3_passOver_53 rfl rfl rfl ?_
  refine Rn_aload_n dX3_passOver_54 rfl rfl rfl ?_
  refine Rn_iload_n dX3_passOver_55 rfl rfl ?_
  refine Rn_iload_n dX3_passOver_56 rfl rfl ?_
  refine Rn_iload dX3_passOver_57 rfl ?_
  refine Rn_iload dX3_passOver_59 rfl ?_
  exact Rn_callV (ci := 3) (avs := [vR r1, vI x2, vI x3, vI x5, vI x4]) (st := []) (bc1 := 0) (bs1 := 0) (bc2 := bc) (bs2 := bs) fx_X3_putBehind dX3_passOver_61 wd_1207 wd_1209 wd_43 rfl h2 rfl (Nat.le_of_ble_eq_true rfl) (Nat.le_of_ble_eq_true rfl) (by omega) (by omega) (ls1 := [some (vR (some ar0)), some (vR r1), some (vI x2), some (vI x3), some (vI x5), some (vI x4), none, none, none, none]) rfl k
theorem BX3_passOver_64 {d bc bs : Nat} {h : aH} {n : Nat} {Q : aQ} {r0 r1 : Option Nat} {x2 x3 x4 x5 : Int} (b1 : -2147483648 ≤ x5 + 1 ∧ x5 + 1 < 2147483648) (k : Rn d bc bs mX3_passOver 44 [some (vR r0), some (vR r1), some (vI x2), some (vI x3), some (vI x4), some (vI (x5 + 1))] [] h n Q) : Rn d (bc) (bs) mX3_passOver 64 [some (vR r0), some (vR r1), some (vI x2), some (vI x3), some (vI x4), some (vI x5)] [] h n Q := by
  refine Rn_iinc dX3_passOver_64 rfl (Nat.le_of_ble_eq_true rfl) rfl rfl rfl ?_
  rw [w32_id b1.1 b1.2]
  refine Rn_goto (tgt := 44) dX3_passOver_67 rfl ?_
  exact k
theorem BX3_passOver_70 {d bc bs : Nat} {h : aH} {n : Nat} {Q : aQ} {r0 r1 : Option Nat} {x2 x3 x4 : Int} {l5 : Option aV} (b1 : -2147483648 ≤ x3 + 1 ∧ x3 + 1 < 2147483648) (k : Rn d bc bs mX3_passOver 12 [some (vR r0), some (vR r1), some (vI x2), some (vI (x3 + 1)), some (vI x4), l5] [] h n Q) : Rn d (bc) (bs) mX3_passOver 70 [some (vR r0), some (vR r1), some (vI x2), some (vI x3), some (vI x4), l5] [] h n Q := by
  refine Rn_iinc dX3_passOver_70 rfl (Nat.le_of_ble_eq_true rfl) rfl rfl rfl ?_
  rw [w32_id b1.1 b1.2]
  refine Rn_goto (tgt := 12) dX3_passOver_73 rfl ?_
  exact k
theorem BX3_passOver_76 {d bc bs : Nat} {h : aH} {n : Nat} {Q : aQ} {r0 r1 : Option Nat} {x2 x3 : Int} {l4 l5 : Option aV} (b1 : -2147483648 ≤ x2 + 1 ∧ x2 + 1 < 2147483648) (k : Rn d bc bs mX3_passOver 2 [some (vR r0), some (vR r1), some (vI (x2 + 1)), some (vI x3), l4, l5] [] h n Q) : Rn d (bc) (bs) mX3_passOver 76 [some (vR r0), some (vR r1), some (vI x2), some (vI x3), l4, l5] [] h n Q := by
  refine Rn_iinc dX3_passOver_76 rfl (Nat.le_of_ble_eq_true rfl) rfl rfl rfl ?_
  rw [w32_id b1.1 b1.2]
  refine Rn_goto (tgt := 2) dX3_passOver_79 rfl ?_
  exact k
theorem BX3_passOver_82 {d bc bs : Nat} {h : aH} {n : Nat} {Q : aQ} {r0 r1 : Option Nat} {x2 : Int} {l3 l4 l5 : Option aV} (k : Q none h n) : Rn d (bc) (bs) mX3_passOver 82 [some (vR r0), some (vR r1), some (vI x2), l3, l4, l5] [] h n Q := by
  exact Rn_return rfl dX3_passOver_82 k
theorem dX3_putBehind_0 : decode cX3_putBehind 0 = .ok (.aload_n 1, 1) := by decide +kernel
theorem dX3_putBehind_1 : decode cX3_putBehind 1 = .ok (.iload_n 2, 1) := by decide +kernel
theorem dX3_putBehind_2 : decode cX3_putBehind 2 = .ok (.invokevirtual 60, 3) := by decide +kernel
theorem dX3_putBehind_5 : decode cX3_putBehind 5 = .ok (.invokestatic 42, 3) := by decide +kernel
theorem dX3_putBehind_8 : decode cX3_putBehind 8 = .ok (.iload_n 3, 1) := by decide +kernel
theorem dX3_putBehind_9 : decode cX3_putBehind 9 = .ok (.isub, 1) := by decide +kernel
theorem dX3_putBehind_10 : decode cX3_putBehind 10 = .ok (.istore 6, 2) := by decide +kernel
theorem dX3_putBehind_12 : decode cX3_putBehind 12 = .ok (.aload_n 1, 1) := by decide +kernel
theorem dX3_putBehind_13 : decode cX3_putBehind 13 = .ok (.iload_n 2, 1) := by decide +kernel
theorem dX3_putBehind_14 : decode cX3_putBehind 14 = .ok (.invokevirtual 60, 3) := by decide +kernel
theorem dX3_putBehind_17 : decode cX3_putBehind 17 = .ok (.iload 6, 2) := by decide +kernel
theorem dX3_putBehind_19 : decode cX3_putBehind 19 = .ok (.invokestatic 83, 3) := by decide +kernel
theorem dX3_putBehind_22 : decode cX3_putBehind 22 = .ok (.istore 7, 2) := by decide +kernel
theorem dX3_putBehind_24 : decode cX3_putBehind 24 = .ok (.aload_n 1, 1) := by decide +kernel
theorem dX3_putBehind_25 : decode cX3_putBehind 25 = .ok (.iload 4, 2) := by decide +kernel
theorem dX3_putBehind_27 : decode cX3_putBehind 27 = .ok (.invokevirtual 60, 3) := by decide +kernel
theorem dX3_putBehind_30 : decode cX3_putBehind 30 = .ok (.istore 8, 2) := by decide +kernel
theorem dX3_putBehind_32 : decode cX3_putBehind 32 = .ok (.iload 8, 2) := by decide +kernel
theorem dX3_putBehind_34 : decode cX3_putBehind 34 = .ok (.invokestatic 42, 3) := by decide +kernel
theorem dX3_putBehind_37 : decode cX3_putBehind 37 = .ok (.iload 6, 2) := by decide +kernel
theorem dX3_putBehind_39 : decode cX3_putBehind 39 = .ok (.isub, 1) := by decide +kernel
theorem dX3_putBehind_40 : decode cX3_putBehind 40 = .ok (.istore 9, 2) := by decide +kernel
theorem dX3_putBehind_42 : decode cX3_putBehind 42 = .ok (.iload 8, 2) := by decide +kernel
theorem dX3_putBehind_44 : decode cX3_putBehind 44 = .ok (.iload 7, 2) := by decide +kernel
theorem dX3_putBehind_46 : decode cX3_putBehind 46 = .ok (.if_icmp .ne 19, 3) := by decide +kernel
theorem dX3_putBehind_49 : decode cX3_putBehind 49 = .ok (.aload_n 0, 1) := by decide +kernel
theorem dX3_putBehind_50 : decode cX3_putBehind 50 = .ok (.aload_n 0, 1) := by decide +kernel
theorem dX3_putBehind_51 : decode cX3_putBehind 51 = .ok (.getfield 26, 3) := by decide +kernel
theorem dX3_putBehind_54 : decode cX3_putBehind 54 = .ok (.iload 5, 2) := by decide +kernel
theorem dX3_putBehind_56 : decode cX3_putBehind 56 = .ok (.invokestatic 86, 3) := by decide +kernel
theorem dX3_putBehind_59 : decode cX3_putBehind 59 = .ok (.putfield 26, 3) := by decide +kernel
theorem dX3_putBehind_62 : decode cX3_putBehind 62 = .ok (.goto 63, 3) := by decide +kernel
theorem dX3_putBehind_65 : decode cX3_putBehind 65 = .ok (.iload 9, 2) := by decide +kernel
theorem dX3_putBehind_67 : decode cX3_putBehind 67 = .ok (.ifCond .ge 30, 3) := by decide +kernel
theorem dX3_putBehind_70 : decode cX3_putBehind 70 = .ok (.iload 7, 2) := by decide +kernel
theorem dX3_putBehind_72 : decode cX3_putBehind 72 = .ok (.iload 8, 2) := by decide +kernel
theorem dX3_putBehind_74 : decode cX3_putBehind 74 = .ok (.invokestatic 63, 3) := by decide +kernel
theorem dX3_putBehind_77 : decode cX3_putBehind 77 = .ok (.ifCond .eq 20, 3) := by decide +kernel
theorem dX3_putBehind_80 : decode cX3_putBehind 80 = .ok (.aload_n 0, 1) := by decide +kernel
theorem dX3_putBehind_81 : decode cX3_putBehind 81 = .ok (.iload_n 2, 1) := by decide +kernel
theorem dX3_putBehind_82 : decode cX3_putBehind 82 = .ok (.iload_n 3, 1) := by decide +kernel
theorem dX3_putBehind_83 : decode cX3_putBehind 83 = .ok (.iload 8, 2) := by decide +kernel
theorem dX3_putBehind_85 : decode cX3_putBehind 85 = .ok (.invokestatic 42, 3) := by decide +kernel
theorem dX3_putBehind_88 : decode cX3_putBehind 88 = .ok (.iadd, 1) := by decide +kernel
theorem dX3_putBehind_89 : decode cX3_putBehind 89 = .ok (.iload 5, 2) := by decide +kernel
theorem dX3_putBehind_91 : decode cX3_putBehind 91 = .ok (.invokevirtual 67, 3) := by decide +kernel
theorem dX3_putBehind_94 : decode cX3_putBehind 94 = .ok (.goto 31, 3) := by decide +kernel
theorem dX3_putBehind_97 : decode cX3_putBehind 97 = .ok (.iload 9, 2) := by decide +kernel
theorem dX3_putBehind_99 : decode cX3_putBehind 99 = .ok (.ifCond .le 26, 3) := by decide +kernel
theorem dX3_putBehind_102 : decode cX3_putBehind 102 = .ok (.iload 8, 2) := by decide +kernel
theorem dX3_putBehind_104 : decode cX3_putBehind 104 = .ok (.iload 7, 2) := by decide +kernel
theorem dX3_putBehind_106 : decode cX3_putBehind 106 = .ok (.invokestatic 63, 3) := by decide +kernel
theorem dX3_putBehind_109 : decode cX3_putBehind 109 = .ok (.ifCond .eq 16, 3) := by decide +kernel
theorem dX3_putBehind_112 : decode cX3_putBehind 112 = .ok (.aload_n 0, 1) := by decide +kernel
theorem dX3_putBehind_113 : decode cX3_putBehind 113 = .ok (.iload 4, 2) := by decide +kernel
theorem dX3_putBehind_115 : decode cX3_putBehind 115 = .ok (.iload 6, 2) := by decide +kernel
theorem dX3_putBehind_117 : decode cX3_putBehind 117 = .ok (.iload 5, 2) := by decide +kernel
theorem dX3_putBehind_119 : decode cX3_putBehind 119 = .ok (.iload 9, 2) := by decide +kernel
theorem dX3_putBehind_121 : decode cX3_putBehind 121 = .ok (.iadd, 1) := by decide +kernel
theorem dX3_putBehind_122 : decode cX3_putBehind 122 = .ok (.invokevirtual 67, 3) := by decide +kernel
theorem dX3_putBehind_125 : decode cX3_putBehind 125 = .ok (.return_, 1) := by decide +kernel
theorem BX3_putBehind_0 {d bc bs : Nat} {h : aH} {n : Nat} {Q : aQ} {r0 : Option Nat} {ar1 : Nat} {x2 x3 x4 x5 : Int} {l6 l7 l8 l9 : Option aV} {f1 : List aV} (h2 : h ar1 = cO 5 f1) (k : Rn d 0 0 mX5_word 0 [some (vR (some ar1)), some (vI x2)] [] h n (fun v h1 n1 => Rn (d + 1) bc bs mX3_putBehind 5 [some (vR r0), some (vR (some ar1)), some (vI x2), some (vI x3), some (vI x4), some (vI x5), l6, l7, l8, l9] (v.toList ++ []) h1 n1 Q)) : Rn (d + 1) (bc) (bs) mX3_putBehind 0 [some (vR r0), some (vR (some ar1)), some (vI x2), some (vI x3), some (vI x4), some (vI x5), l6, l7, l8, l9] [] h n Q := by
  refine Rn_aload_n dX3_putBehind_0 rfl rfl rfl ?_
  refine Rn_iload_n dX3_putBehind_1 rfl rfl ?_
  exact Rn_callV (ci := 5) (avs := [vI x2]) (st := []) (bc1 := 0) (bs1 := 0) (bc2 := bc) (bs2 := bs) fx_X5_word dX3_putBehind_2 wd_1184 wd_1170 wd_1171 rfl h2 rfl (Nat.le_of_ble_eq_true rfl) (Nat.le_of_ble_eq_true rfl) (by omega) (by omega) (ls1 := [some (vR (some ar1)), some (vI x2)]) rfl k
theorem BX3_putBehind_5 {d bc bs : Nat} {h : aH} {n : Nat} {Q : aQ} {r0 r1 : Option Nat} {x2 x3 x4 x5 s0 : Int} {l6 l7 l8 l9 : Option aV} (k : Rn d 0 0 mX3_digitsOf 0 [some (vI s0), none, none] [] h n (fun v h1 n1 => Rn (d + 1) bc bs mX3_putBehind 8 [some (vR r0), some (vR r1), some (vI x2), some (vI x3), some (vI x4), some (vI x5), l6, l7, l8, l9] (v.toList ++ []) h1 n1 Q)) : Rn (d + 1) (bc) (bs) mX3_putBehind 5 [some (vR r0), some (vR r1), some (vI x2), some (vI x3), some (vI x4), some (vI x5), l6, l7, l8, l9] [vI s0] h n Q := by
  exact Rn_callS (avs := [vI s0]) (st := []) (bc1 := 0) (bs1 := 0) (bc2 := bc) (bs2 := bs) fx_X3_digitsOf dX3_putBehind_5 (Or.inl wd_1188) wd_1189 rfl (Nat.le_of_ble_eq_true rfl) (Nat.le_of_ble_eq_true rfl) (by omega) (by omega) (ls1 := [some (vI s0), none, none]) rfl k
theorem BX3_putBehind_8 {d bc bs : Nat} {h : aH} {n : Nat} {Q : aQ} {r0 : Option Nat} {ar1 : Nat} {x2 x3 x4 x5 s0 : Int} {l6 l7 l8 l9 : Option aV} {f2 : List aV} (b1 : -2147483648 ≤ s0 - x3 ∧ s0 - x3 < 2147483648) (h3 : h ar1 = cO 5 f2) (k : Rn d 0 0 mX5_word 0 [some (vR (some ar1)), some (vI x2)] [] h n (fun v h1 n1 => Rn (d + 1) bc bs mX3_putBehind 17 [some (vR r0), some (vR (some ar1)), some (vI x2), some (vI x3), some (vI x4), some (vI x5), some (vI (s0 - x3)), l7, l8, l9] (v.toList ++ []) h1 n1 Q)) : Rn (d + 1) (bc) (bs) mX3_putBehind 8 [some (vR r0), some (vR (some ar1)), some (vI x2), some (vI x3), some (vI x4), some (vI x5), l6, l7, l8, l9] [vI s0] h n Q := by
  refine Rn_iload_n dX3_putBehind_8 rfl rfl ?_
  refine Rn_isub dX3_putBehind_9 ?_
  rw [w32_id b1.1 b1.2]
  refine Rn_istore dX3_putBehind_10 (Nat.le_of_ble_eq_true rfl) rfl rfl ?_
  refine Rn_aload_n dX3_putBehind_12 rfl rfl rfl ?_
  refine Rn_iload_n dX3_putBehind_13 rfl rfl ?_
  exact Rn_callV (ci := 5) (avs := [vI x2]) (st := []) (bc1 := 0) (bs1 := 0) (bc2 := bc) (bs2 := bs) fx_X5_word dX3_putBehind_14 wd_1184 wd_1170 wd_1171 rfl h3 rfl (Nat.le_of_ble_eq_true rfl) (Nat.le_of_ble_eq_true rfl) (by omega) (by omega) (ls1 := [some (vR (some ar1)), some (vI x2)]) rfl k
theorem BX3_putBehind_17 {d bc bs : Nat} {h : aH} {n : Nat} {Q : aQ} {r0 r1 : Option Nat} {x2 x3 x4 x5 x6 s0 : Int} {l7 l8 l9 : Option aV} (k : Rn d 0 0 mX3_lastOf 0 [some (vI s0), some (vI x6), none] [] h n (fun v h1 n1 => Rn (d + 1) bc bs mX3_putBehind 22 [some (vR r0), some (vR r1), some (vI x2), some (vI x3), some (vI x4), some (vI x5), some (vI x6), l7, l8, l9] (v.toList ++ []) h1 n1 Q)) : Rn (d + 1) (bc) (bs) mX3_putBehind 17 [some (vR r0), some (vR r1), some (vI x2), some (vI x3), some (vI x4), some (vI x5), some (vI x6), l7, l8, l9] [vI s0] h n Q := by
  refine Rn_iload dX3_putBehind_17 rfl ?_
  exact Rn_callS (avs := [vI s0, vI x6]) (st := []) (bc1 := 0) (bs1 := 0) (bc2 := bc) (bs2 := bs) fx_X3_lastOf dX3_putBehind_19 (Or.inl wd_1211) wd_1212 rfl (Nat.le_of_ble_eq_true rfl) (Nat.le_of_ble_eq_true rfl) (by omega) (by omega) (ls1 := [some (vI s0), some (vI x6), none]) rfl k
theorem BX3_putBehind_22 {d bc bs : Nat} {h : aH} {n : Nat} {Q : aQ} {r0 : Option Nat} {ar1 : Nat} {x2 x3 x4 x5 x6 s0 : Int} {l7 l8 l9 : Option aV} {f1 : List aV} (h2 : h ar1 = cO 5 f1) (k : Rn d 0 0 mX5_word 0 [some (vR (some ar1)), some (vI x4)] [] h n (fun v h1 n1 => Rn (d + 1) bc bs mX3_putBehind 30 [some (vR r0), some (vR (some ar1)), some (vI x2), some (vI x3), some (vI x4), some (vI x5), some (vI x6), some (vI s0), l8, l9] (v.toList ++ []) h1 n1 Q)) : Rn (d + 1) (bc) (bs) mX3_putBehind 22 [some (vR r0), some (vR (some ar1)), some (vI x2), some (vI x3), some (vI x4), some (vI x5), some (vI x6), l7, l8, l9] [vI s0] h n Q := by
  refine Rn_istore dX3_putBehind_22 (Nat.le_of_ble_eq_true rfl) rfl rfl ?_
  refine Rn_aload_n dX3_putBehind_24 rfl rfl rfl ?_
  refine Rn_iload dX3_putBehind_25 rfl ?_
  exact Rn_callV (ci := 5) (avs := [vI x4]) (st := []) (bc1 := 0) (bs1 := 0) (bc2 := bc) (bs2 := bs) fx_X5_word dX3_putBehind_27 wd_1184 wd_1170 wd_1171 rfl h2 rfl (Nat.le_of_ble_eq_true rfl) (Nat.le_of_ble_eq_true rfl) (by omega) (by omega) (ls1 := [some (vR (some ar1)), some (vI x4)]) rfl k
theorem BX3_putBehind_30 {d bc bs : Nat} {h : aH} {n : Nat} {Q : aQ} {r0 r1 : Option Nat} {x2 x3 x4 x5 x6 x7 s0 : Int} {l8 l9 : Option aV} (k : Rn d 0 0 mX3_digitsOf 0 [some (vI s0), none, none] [] h n (fun v h1 n1 => Rn (d + 1) bc bs mX3_putBehind 37 [some (vR r0), some (vR r1), some (vI x2), some (vI x3), some (vI x4), some (vI x5), some (vI x6), some (vI x7), some (vI s0), l9] (v.toList ++ []) h1 n1 Q)) : Rn (d + 1) (bc) (bs) mX3_putBehind 30 [some (vR r0), some (vR r1), some (vI x2), some (vI x3), some (vI x4), some (vI x5), some (vI x6), some (vI x7), l8, l9] [vI s0] h n Q := by
  refine Rn_istore dX3_putBehind_30 (Nat.le_of_ble_eq_true rfl) rfl rfl ?_
  refine Rn_iload dX3_putBehind_32 rfl ?_
  exact Rn_callS (avs := [vI s0]) (st := []) (bc1 := 0) (bs1 := 0) (bc2 := bc) (bs2 := bs) fx_X3_digitsOf dX3_putBehind_34 (Or.inl wd_1188) wd_1189 rfl (Nat.le_of_ble_eq_true rfl) (Nat.le_of_ble_eq_true rfl) (by omega) (by omega) (ls1 := [some (vI s0), none, none]) rfl k
theorem BX3_putBehind_37 {d bc bs : Nat} {h : aH} {n : Nat} {Q : aQ} {r0 r1 : Option Nat} {x2 x3 x4 x5 x6 x7 x8 s0 : Int} {l9 : Option aV} (b1 : -2147483648 ≤ s0 - x6 ∧ s0 - x6 < 2147483648) (kt : x8 ≠ x7 → Rn d bc bs mX3_putBehind 65 [some (vR r0), some (vR r1), some (vI x2), some (vI x3), some (vI x4), some (vI x5), some (vI x6), some (vI x7), some (vI x8), some (vI (s0 - x6))] [] h n Q) (kf : x8 = x7 → Rn d bc bs mX3_putBehind 49 [some (vR r0), some (vR r1), some (vI x2), some (vI x3), some (vI x4), some (vI x5), some (vI x6), some (vI x7), some (vI x8), some (vI (s0 - x6))] [] h n Q) : Rn d (bc) (bs) mX3_putBehind 37 [some (vR r0), some (vR r1), some (vI x2), some (vI x3), some (vI x4), some (vI x5), some (vI x6), some (vI x7), some (vI x8), l9] [vI s0] h n Q := by
  refine Rn_iload dX3_putBehind_37 rfl ?_
  refine Rn_isub dX3_putBehind_39 ?_
  rw [w32_id b1.1 b1.2]
  refine Rn_istore dX3_putBehind_40 (Nat.le_of_ble_eq_true rfl) rfl rfl ?_
  refine Rn_iload dX3_putBehind_42 rfl ?_
  refine Rn_iload dX3_putBehind_44 rfl ?_
  refine Rn_icmpne (tgt := 65) dX3_putBehind_46 rfl ?_ ?_
  · exact kt
  · exact kf
theorem BX3_putBehind_49 {d bc bs : Nat} {h : aH} {n : Nat} {Q : aQ} {ar0 : Nat} {r1 : Option Nat} {x2 x3 x4 x5 x6 x7 x8 x9 v3 : Int} {f1 : List aV} (h2 : h ar0 = cO 3 f1) (g4 : f1[4]? = some (vI v3)) (k : Rn d 0 0 mJ9_min_7cf53 0 [some (vI v3), some (vI x5)] [] h n (fun v h1 n1 => Rn (d + 1) bc bs mX3_putBehind 59 [some (vR (some ar0)), some (vR r1), some (vI x2), some (vI x3), some (vI x4), some (vI x5), some (vI x6), some (vI x7), some (vI x8), some (vI x9)] (v.toList ++ [vR (some ar0)]) h1 n1 Q)) : Rn (d + 1) (bc) (bs) mX3_putBehind 49 [some (vR (some ar0)), some (vR r1), some (vI x2), some (vI x3), some (vI x4), some (vI x5), some (vI x6), some (vI x7), some (vI x8), some (vI x9)] [] h n Q := by
  refine Rn_aload_n dX3_putBehind_49 rfl rfl rfl ?_
  refine Rn_aload_n dX3_putBehind_50 rfl rfl rfl ?_
  refine Rn_getfield (ci := 3) (k := 4) dX3_putBehind_51 rfl in_3 (Nat.le_of_ble_eq_true rfl) wd_442 rfl h2 g4 ?_
  refine Rn_iload dX3_putBehind_54 rfl ?_
  exact Rn_callS (avs := [vI v3, vI x5]) (st := [vR (some ar0)]) (bc1 := 0) (bs1 := 0) (bc2 := bc) (bs2 := bs) fx_J9_min_7cf53 dX3_putBehind_56 (Or.inl wd_1214) wd_559 rfl (Nat.le_of_ble_eq_true rfl) (Nat.le_of_ble_eq_true rfl) (by omega) (by omega) (ls1 := [some (vI v3), some (vI x5)]) rfl k
theorem BX3_putBehind_59 {d bc bs : Nat} {h : aH} {n : Nat} {Q : aQ} {r0 r1 : Option Nat} {x2 x3 x4 x5 x6 x7 x8 x9 s1 : Int} {aq0 : Nat} {f1 : List aV} (h2 : h aq0 = cO 3 f1) (m3 : 4 < f1.length) (k : Rn d bc bs mX3_putBehind 62 [some (vR r0), some (vR r1), some (vI x2), some (vI x3), some (vI x4), some (vI x5), some (vI x6), some (vI x7), some (vI x8), some (vI x9)] [] (up h aq0 (cO 3 (f1.set 4 (vI s1)))) n Q) : Rn d (bc) (bs) mX3_putBehind 59 [some (vR r0), some (vR r1), some (vI x2), some (vI x3), some (vI x4), some (vI x5), some (vI x6), some (vI x7), some (vI x8), some (vI x9)] [vI s1, vR (some aq0)] h n Q := by
  refine Rn_putfield (ci := 3) (k := 4) dX3_putBehind_59 rfl in_3 tyX3_ok nmX3 (Nat.le_of_ble_eq_true rfl) wd_442 rfl (Or.inl rfl) trivial m3 h2 ?_
  exact k
theorem BX3_putBehind_62 {d bc bs : Nat} {h : aH} {n : Nat} {Q : aQ} {r0 r1 : Option Nat} {x2 x3 x4 x5 x6 x7 x8 x9 : Int} (k : Q none h n) : Rn d (bc) (bs) mX3_putBehind 62 [some (vR r0), some (vR r1), some (vI x2), some (vI x3), some (vI x4), some (vI x5), some (vI x6), some (vI x7), some (vI x8), some (vI x9)] [] h n Q := by
  refine Rn_goto (tgt := 125) dX3_putBehind_62 rfl ?_
  exact Rn_return rfl dX3_putBehind_125 k
theorem BX3_putBehind_65 {d bc bs : Nat} {h : aH} {n : Nat} {Q : aQ} {r0 r1 : Option Nat} {x2 x3 x4 x5 x6 x7 x8 x9 : Int} (kt : 0 ≤ x9 → Rn d bc bs mX3_putBehind 97 [some (vR r0), some (vR r1), some (vI x2), some (vI x3), some (vI x4), some (vI x5), some (vI x6), some (vI x7), some (vI x8), some (vI x9)] [] h n Q) (kf : x9 < 0 → Rn d bc bs mX3_putBehind 70 [some (vR r0), some (vR r1), some (vI x2), some (vI x3), some (vI x4), some (vI x5), some (vI x6), some (vI x7), some (vI x8), some (vI x9)] [] h n Q) : Rn d (bc) (bs) mX3_putBehind 65 [some (vR r0), some (vR r1), some (vI x2), some (vI x3), some (vI x4), some (vI x5), some (vI x6), some (vI x7), some (vI x8), some (vI x9)] [] h n Q := by
  refine Rn_iload dX3_putBehind_65 rfl ?_
  refine Rn_ifge (tgt := 97) dX3_putBehind_67 rfl ?_ ?_
  · exact kt
  · exact kf
theorem BX3_putBehind_70 {d bc bs : Nat} {h : aH} {n : Nat} {Q : aQ} {r0 r1 : Option Nat} {x2 x3 x4 x5 x6 x7 x8 x9 : Int} (k : Rn d 0 0 mX3_startsWith 0 [some (vI x7), some (vI x8), none] [] h n (fun v h1 n1 => Rn (d + 1) bc bs mX3_putBehind 77 [some (vR r0), some (vR r1), some (vI x2), some (vI x3), some (vI x4), some (vI x5), some (vI x6), some (vI x7), some (vI x8), some (vI x9)] (v.toList ++ []) h1 n1 Q)) : Rn (d + 1) (bc) (bs) mX3_putBehind 70 [some (vR r0), some (vR r1), some (vI x2), some (vI x3), some (vI x4), some (vI x5), some (vI x6), some (vI x7), some (vI x8), some (vI x9)] [] h n Q := by
  refine Rn_iload dX3_putBehind_70 rfl ?_
  refine Rn_iload dX3_putBehind_72 rfl ?_
  exact Rn_callS (avs := [vI x7, vI x8]) (st := []) (bc1 := 0) (bs1 := 0) (bc2 := bc) (bs2 := bs) fx_X3_startsWith dX3_putBehind_74 (Or.inl wd_1185) wd_1186 rfl (Nat.le_of_ble_eq_true rfl) (Nat.le_of_ble_eq_true rfl) (by omega) (by omega) (ls1 := [some (vI x7), some (vI x8), none]) rfl k
theorem BX3_putBehind_77 {d bc bs : Nat} {h : aH} {n : Nat} {Q : aQ} {r0 r1 : Option Nat} {x2 x3 x4 x5 x6 x7 x8 x9 s0 : Int} (kt : s0 = 0 → Rn d bc bs mX3_putBehind 97 [some (vR r0), some (vR r1), some (vI x2), some (vI x3), some (vI x4), some (vI x5), some (vI x6), some (vI x7), some (vI x8), some (vI x9)] [] h n Q) (kf : s0 ≠ 0 → Rn d bc bs mX3_putBehind 80 [some (vR r0), some (vR r1), some (vI x2), some (vI x3), some (vI x4), some (vI x5), some (vI x6), some (vI x7), some (vI x8), some (vI x9)] [] h n Q) : Rn d (bc) (bs) mX3_putBehind 77 [some (vR r0), some (vR r1), some (vI x2), some (vI x3), some (vI x4), some (vI x5), some (vI x6), some (vI x7), some (vI x8), some (vI x9)] [vI s0] h n Q := by
  refine Rn_ifeq (tgt := 97) dX3_putBehind_77 rfl ?_ ?_
  · exact kt
  · exact kf
theorem BX3_putBehind_80 {d bc bs : Nat} {h : aH} {n : Nat} {Q : aQ} {r0 r1 : Option Nat} {x2 x3 x4 x5 x6 x7 x8 x9 : Int} (k : Rn d 0 0 mX3_digitsOf 0 [some (vI x8), none, none] [] h n (fun v h1 n1 => Rn (d + 1) bc bs mX3_putBehind 88 [some (vR r0), some (vR r1), some (vI x2), some (vI x3), some (vI x4), some (vI x5), some (vI x6), some (vI x7), some (vI x8), some (vI x9)] (v.toList ++ [vI x3, vI x2, vR r0]) h1 n1 Q)) : Rn (d + 1) (bc) (bs) mX3_putBehind 80 [some (vR r0), some (vR r1), some (vI x2), some (vI x3), some (vI x4), some (vI x5), some (vI x6), some (vI x7), some (vI x8), some (vI x9)] [] h n Q := by
  refine Rn_aload_n dX3_putBehind_80 rfl rfl rfl ?_
  refine Rn_iload_n dX3_putBehind_81 rfl rfl ?_
  refine Rn_iload_n dX3_putBehind_82 rfl rfl ?_
  refine Rn_iload dX3_putBehind_83 rfl ?_
  exact Rn_callS (avs := [vI x8]) (st := [vI x3, vI x2, vR r0]) (bc1 := 0) (bs1 := 0) (bc2 := bc) (bs2 := bs) fx_X3_digitsOf dX3_putBehind_85 (Or.inl wd_1188) wd_1189 rfl (Nat.le_of_ble_eq_true rfl) (Nat.le_of_ble_eq_true rfl) (by omega) (by omega) (ls1 := [some (vI x8), none, none]) rfl k
theorem BX3_putBehind_88 {d bc bs : Nat} {h : aH} {n : Nat} {Q : aQ} {r0 r1 : Option Nat} {x2 x3 x4 x5 x6 x7 x8 x9 s1 s2 s3 : Int} {aq0 : Nat} {f2 : List aV} (b1 : -2147483648 ≤ s2 + s3 ∧ s2 + s3 < 2147483648) (h3 : h aq0 = cO 3 f2) (k : Rn d 0 0 mX3_come 0 [some (vR (some aq0)), some (vI s1), some (vI (s2 + s3)), some (vI x5), none] [] h n (fun v h1 n1 => Rn (d + 1) bc bs mX3_putBehind 94 [some (vR r0), some (vR r1), some (vI x2), some (vI x3), some (vI x4), some (vI x5), some (vI x6), some (vI x7), some (vI x8), some (vI x9)] (v.toList ++ []) h1 n1 Q)) : Rn (d + 1) (bc) (bs) mX3_putBehind 88 [some (vR r0), some (vR r1), some (vI x2), some (vI x3), some (vI x4), some (vI x5), some (vI x6), some (vI x7), some (vI x8), some (vI x9)] [vI s3, vI s2, vI s1, vR (some aq0)] h n Q := by
  refine Rn_iadd dX3_putBehind_88 ?_
  rw [w32_id b1.1 b1.2]
  refine Rn_iload dX3_putBehind_89 rfl ?_
  exact Rn_callV (ci := 3) (avs := [vI s1, vI (s2 + s3), vI x5]) (st := []) (bc1 := 0) (bs1 := 0) (bc2 := bc) (bs2 := bs) fx_X3_come dX3_putBehind_91 wd_1197 wd_1199 wd_41 rfl h3 rfl (Nat.le_of_ble_eq_true rfl) (Nat.le_of_ble_eq_true rfl) (by omega) (by omega) (ls1 := [some (vR (some aq0)), some (vI s1), some (vI (s2 + s3)), some (vI x5), none]) rfl k
theorem BX3_putBehind_94 {d bc bs : Nat} {h : aH} {n : Nat} {Q : aQ} {r0 r1 : Option Nat} {x2 x3 x4 x5 x6 x7 x8 x9 : Int} (k : Q none h n) : Rn d (bc) (bs) mX3_putBehind 94 [some (vR r0), some (vR r1), some (vI x2), some (vI x3), some (vI x4), some (vI x5), some (vI x6), some (vI x7), some (vI x8), some (vI x9)] [] h n Q := by
  refine Rn_goto (tgt := 125) dX3_putBehind_94 rfl ?_
  exact Rn_return rfl dX3_putBehind_125 k
theorem BX3_putBehind_97 {d bc bs : Nat} {h : aH} {n : Nat} {Q : aQ} {r0 r1 : Option Nat} {x2 x3 x4 x5 x6 x7 x8 x9 : Int} (kt : x9 ≤ 0 → Rn d bc bs mX3_putBehind 125 [some (vR r0), some (vR r1), some (vI x2), some (vI x3), some (vI x4), some (vI x5), some (vI x6), some (vI x7), some (vI x8), some (vI x9)] [] h n Q) (kf : 0 < x9 → Rn d bc bs mX3_putBehind 102 [some (vR r0), some (vR r1), some (vI x2), some (vI x3), some (vI x4), some (vI x5), some (vI x6), some (vI x7), some (vI x8), some (vI x9)] [] h n Q) : Rn d (bc) (bs) mX3_putBehind 97 [some (vR r0), some (vR r1), some (vI x2), some (vI x3), some (vI x4), some (vI x5), some (vI x6), some (vI x7), some (vI x8), some (vI x9)] [] h n Q := by
  refine Rn_iload dX3_putBehind_97 rfl ?_
  refine Rn_ifle (tgt := 125) dX3_putBehind_99 rfl ?_ ?_
  · exact kt
  · exact kf
theorem BX3_putBehind_102 {d bc bs : Nat} {h : aH} {n : Nat} {Q : aQ} {r0 r1 : Option Nat} {x2 x3 x4 x5 x6 x7 x8 x9 : Int} (k : Rn d 0 0 mX3_startsWith 0 [some (vI x8), some (vI x7), none] [] h n (fun v h1 n1 => Rn (d + 1) bc bs mX3_putBehind 109 [some (vR r0), some (vR r1), some (vI x2), some (vI x3), some (vI x4), some (vI x5), some (vI x6), some (vI x7), some (vI x8), some (vI x9)] (v.toList ++ []) h1 n1 Q)) : Rn (d + 1) (bc) (bs) mX3_putBehind 102 [some (vR r0), some (vR r1), some (vI x2), some (vI x3), some (vI x4), some (vI x5), some (vI x6), some (vI x7), some (vI x8), some (vI x9)] [] h n Q := by
  refine Rn_iload dX3_putBehind_102 rfl ?_
  refine Rn_iload dX3_putBehind_104 rfl ?_
  exact Rn_callS (avs := [vI x8, vI x7]) (st := []) (bc1 := 0) (bs1 := 0) (bc2 := bc) (bs2 := bs) fx_X3_startsWith dX3_putBehind_106 (Or.inl wd_1185) wd_1186 rfl (Nat.le_of_ble_eq_true rfl) (Nat.le_of_ble_eq_true rfl) (by omega) (by omega) (ls1 := [some (vI x8), some (vI x7), none]) rfl k
theorem BX3_putBehind_109 {d bc bs : Nat} {h : aH} {n : Nat} {Q : aQ} {r0 r1 : Option Nat} {x2 x3 x4 x5 x6 x7 x8 x9 s0 : Int} (kt : s0 = 0 → Rn d bc bs mX3_putBehind 125 [some (vR r0), some (vR r1), some (vI x2), some (vI x3), some (vI x4), some (vI x5), some (vI x6), some (vI x7), some (vI x8), some (vI x9)] [] h n Q) (kf : s0 ≠ 0 → Rn d bc bs mX3_putBehind 112 [some (vR r0), some (vR r1), some (vI x2), some (vI x3), some (vI x4), some (vI x5), some (vI x6), some (vI x7), some (vI x8), some (vI x9)] [] h n Q) : Rn d (bc) (bs) mX3_putBehind 109 [some (vR r0), some (vR r1), some (vI x2), some (vI x3), some (vI x4), some (vI x5), some (vI x6), some (vI x7), some (vI x8), some (vI x9)] [vI s0] h n Q := by
  refine Rn_ifeq (tgt := 125) dX3_putBehind_109 rfl ?_ ?_
  · exact kt
  · exact kf
theorem BX3_putBehind_112 {d bc bs : Nat} {h : aH} {n : Nat} {Q : aQ} {ar0 : Nat} {r1 : Option Nat} {x2 x3 x4 x5 x6 x7 x8 x9 : Int} {f2 : List aV} (b1 : -2147483648 ≤ x5 + x9 ∧ x5 + x9 < 2147483648) (h3 : h ar0 = cO 3 f2) (k : Rn d 0 0 mX3_come 0 [some (vR (some ar0)), some (vI x4), some (vI x6), some (vI (x5 + x9)), none] [] h n (fun v h1 n1 => Rn (d + 1) bc bs mX3_putBehind 125 [some (vR (some ar0)), some (vR r1), some (vI x2), some (vI x3), some (vI x4), some (vI x5), some (vI x6), some (vI x7), some (vI x8), some (vI x9)] (v.toList ++ []) h1 n1 Q)) : Rn (d + 1) (bc) (bs) mX3_putBehind 112 [some (vR (some ar0)), some (vR r1), some (vI x2), some (vI x3), some (vI x4), some (vI x5), some (vI x6), some (vI x7), some (vI x8), some (vI x9)] [] h n Q := by
  refine Rn_aload_n dX3_putBehind_112 rfl rfl rfl ?_
  refine Rn_iload dX3_putBehind_113 rfl ?_
  refine Rn_iload dX3_putBehind_115 rfl ?_
  refine Rn_iload dX3_putBehind_117 rfl ?_
  refine Rn_iload dX3_putBehind_119 rfl ?_
  refine Rn_iadd dX3_putBehind_121 ?_
  rw [w32_id b1.1 b1.2]
  exact Rn_callV (ci := 3) (avs := [vI x4, vI x6, vI (x5 + x9)]) (st := []) (bc1 := 0) (bs1 := 0) (bc2 := bc) (bs2 := bs) fx_X3_come dX3_putBehind_122 wd_1197 wd_1199 wd_41 rfl h3 rfl (Nat.le_of_ble_eq_true rfl) (Nat.le_of_ble_eq_true rfl) (by omega) (by omega) (ls1 := [some (vR (some ar0)), some (vI x4), some (vI x6), some (vI (x5 + x9)), none]) rfl k
theorem BX3_putBehind_125 {d bc bs : Nat} {h : aH} {n : Nat} {Q : aQ} {r0 r1 : Option Nat} {x2 x3 x4 x5 x6 x7 x8 x9 : Int} (k : Q none h n) : Rn d (bc) (bs) mX3_putBehind 125 [some (vR r0), some (vR r1), some (vI x2), some (vI x3), some (vI x4), some (vI x5), some (vI x6), some (vI x7), some (vI x8), some (vI x9)] [] h n Q := by
  exact Rn_return rfl dX3_putBehind_125 k
theorem dX3_come_0 : decode cX3_come 0 = .ok (.iload_n 1, 1) := by decide +kernel
theorem dX3_come_1 : decode cX3_come 1 = .ok (.iconst 4, 1) := by decide +kernel
theorem dX3_come_2 : decode cX3_come 2 = .ok (.imul, 1) := by decide +kernel
theorem dX3_come_3 : decode cX3_come 3 = .ok (.iload_n 2, 1) := by decide +kernel
theorem dX3_come_4 : decode cX3_come 4 = .ok (.iadd, 1) := by decide +kernel
theorem dX3_come_5 : decode cX3_come 5 = .ok (.istore 4, 2) := by decide +kernel
theorem dX3_come_7 : decode cX3_come 7 = .ok (.aload_n 0, 1) := by decide +kernel
theorem dX3_come_8 : decode cX3_come 8 = .ok (.getfield 11, 3) := by decide +kernel
theorem dX3_come_11 : decode cX3_come 11 = .ok (.iload 4, 2) := by decide +kernel
theorem dX3_come_13 : decode cX3_come 13 = .ok (.invokestatic 75, 3) := by decide +kernel
theorem dX3_come_16 : decode cX3_come 16 = .ok (.iload_n 3, 1) := by decide +kernel
theorem dX3_come_17 : decode cX3_come 17 = .ok (.if_icmp .gt 4, 3) := by decide +kernel
theorem dX3_come_20 : decode cX3_come 20 = .ok (.return_, 1) := by decide +kernel
theorem dX3_come_21 : decode cX3_come 21 = .ok (.aload_n 0, 1) := by decide +kernel
theorem dX3_come_22 : decode cX3_come 22 = .ok (.getfield 11, 3) := by decide +kernel
theorem dX3_come_25 : decode cX3_come 25 = .ok (.iload 4, 2) := by decide +kernel
theorem dX3_come_27 : decode cX3_come 27 = .ok (.iload_n 3, 1) := by decide +kernel
theorem dX3_come_28 : decode cX3_come 28 = .ok (.invokestatic 91, 3) := by decide +kernel
theorem dX3_come_31 : decode cX3_come 31 = .ok (.aload_n 0, 1) := by decide +kernel
theorem dX3_come_32 : decode cX3_come 32 = .ok (.iconst 1, 1) := by decide +kernel
theorem dX3_come_33 : decode cX3_come 33 = .ok (.putfield 30, 3) := by decide +kernel
theorem dX3_come_36 : decode cX3_come 36 = .ok (.return_, 1) := by decide +kernel
theorem BX3_come_0 {d bc bs : Nat} {h : aH} {n : Nat} {Q : aQ} {ar0 : Nat} {x1 x2 x3 : Int} {l4 : Option aV} {f3 : List aV} {t5 : Option Nat} (b1 : -2147483648 ≤ x1 * 4 ∧ x1 * 4 < 2147483648) (b2 : -2147483648 ≤ (x1 * 4) + x2 ∧ (x1 * 4) + x2 < 2147483648) (h4 : h ar0 = cO 3 f3) (g6 : f3[0]? = some (vR t5)) (k : Rn d 0 0 mX12_cell 0 [some (vR t5), some (vI ((x1 * 4) + x2))] [] h n (fun v h1 n1 => Rn (d + 1) bc bs mX3_come 16 [some (vR (some ar0)), some (vI x1), some (vI x2), some (vI x3), some (vI ((x1 * 4) + x2))] (v.toList ++ []) h1 n1 Q)) : Rn (d + 1) (bc) (bs) mX3_come 0 [some (vR (some ar0)), some (vI x1), some (vI x2), some (vI x3), l4] [] h n Q := by
  refine Rn_iload_n dX3_come_0 rfl rfl ?_
  refine Rn_iconst dX3_come_1 rfl ?_
  refine Rn_imul dX3_come_2 ?_
  rw [w32_id b1.1 b1.2]
  refine Rn_iload_n dX3_come_3 rfl rfl ?_
  refine Rn_iadd dX3_come_4 ?_
  rw [w32_id b2.1 b2.2]
  refine Rn_istore dX3_come_5 (Nat.le_of_ble_eq_true rfl) rfl rfl ?_
  refine Rn_aload_n dX3_come_7 rfl rfl rfl ?_
  refine Rn_getfield (ci := 3) (k := 0) dX3_come_8 rfl in_3 (Nat.le_of_ble_eq_true rfl) wd_438 rfl h4 g6 ?_
  refine Rn_iload dX3_come_11 rfl ?_
  exact Rn_callS (avs := [vR t5, vI ((x1 * 4) + x2)]) (st := []) (bc1 := 0) (bs1 := 0) (bc2 := bc) (bs2 := bs) fx_X12_cell dX3_come_13 (Or.inr ⟨"BottledPost", List.mem_of_getElem? (i := 27) rfl⟩) wd_967 rfl (Nat.le_of_ble_eq_true rfl) (Nat.le_of_ble_eq_true rfl) (by omega) (by omega) (ls1 := [some (vR t5), some (vI ((x1 * 4) + x2))]) rfl k
theorem BX3_come_16 {d bc bs : Nat} {h : aH} {n : Nat} {Q : aQ} {r0 : Option Nat} {x1 x2 x3 x4 s0 : Int} (kt : x3 < s0 → Rn d bc bs mX3_come 21 [some (vR r0), some (vI x1), some (vI x2), some (vI x3), some (vI x4)] [] h n Q) (kf : s0 ≤ x3 → Rn d bc bs mX3_come 20 [some (vR r0), some (vI x1), some (vI x2), some (vI x3), some (vI x4)] [] h n Q) : Rn d (bc) (bs) mX3_come 16 [some (vR r0), some (vI x1), some (vI x2), some (vI x3), some (vI x4)] [vI s0] h n Q := by
  refine Rn_iload_n dX3_come_16 rfl rfl ?_
  refine Rn_icmpgt (tgt := 21) dX3_come_17 rfl ?_ ?_
  · exact kt
  · exact kf
theorem BX3_come_20 {d bc bs : Nat} {h : aH} {n : Nat} {Q : aQ} {r0 : Option Nat} {x1 x2 x3 x4 : Int} (k : Q none h n) : Rn d (bc) (bs) mX3_come 20 [some (vR r0), some (vI x1), some (vI x2), some (vI x3), some (vI x4)] [] h n Q := by
  exact Rn_return rfl dX3_come_20 k
theorem BX3_come_21 {d bc bs : Nat} {h : aH} {n : Nat} {Q : aQ} {ar0 : Nat} {x1 x2 x3 x4 : Int} {f1 : List aV} {t3 : Option Nat} (h2 : h ar0 = cO 3 f1) (g4 : f1[0]? = some (vR t3)) (k : Rn d 0 0 mX12_setCell 0 [some (vR t3), some (vI x4), some (vI x3)] [] h n (fun v h1 n1 => Rn (d + 1) bc bs mX3_come 31 [some (vR (some ar0)), some (vI x1), some (vI x2), some (vI x3), some (vI x4)] (v.toList ++ []) h1 n1 Q)) : Rn (d + 1) (bc) (bs) mX3_come 21 [some (vR (some ar0)), some (vI x1), some (vI x2), some (vI x3), some (vI x4)] [] h n Q := by
  refine Rn_aload_n dX3_come_21 rfl rfl rfl ?_
  refine Rn_getfield (ci := 3) (k := 0) dX3_come_22 rfl in_3 (Nat.le_of_ble_eq_true rfl) wd_438 rfl h2 g4 ?_
  refine Rn_iload dX3_come_25 rfl ?_
  refine Rn_iload_n dX3_come_27 rfl rfl ?_
  exact Rn_callS (avs := [vR t3, vI x4, vI x3]) (st := []) (bc1 := 0) (bs1 := 0) (bc2 := bc) (bs2 := bs) fx_X12_setCell dX3_come_28 (Or.inr ⟨"BottledPost", List.mem_of_getElem? (i := 28) rfl⟩) wd_164 rfl (Nat.le_of_ble_eq_true rfl) (Nat.le_of_ble_eq_true rfl) (by omega) (by omega) (ls1 := [some (vR t3), some (vI x4), some (vI x3)]) rfl k
theorem BX3_come_31 {d bc bs : Nat} {h : aH} {n : Nat} {Q : aQ} {ar0 : Nat} {x1 x2 x3 x4 : Int} {f1 : List aV} (h2 : h ar0 = cO 3 f1) (m3 : 5 < f1.length) (k : Rn d bc bs mX3_come 36 [some (vR (some ar0)), some (vI x1), some (vI x2), some (vI x3), some (vI x4)] [] (up h ar0 (cO 3 (f1.set 5 (vI 1)))) n Q) : Rn d (bc) (bs) mX3_come 31 [some (vR (some ar0)), some (vI x1), some (vI x2), some (vI x3), some (vI x4)] [] h n Q := by
  refine Rn_aload_n dX3_come_31 rfl rfl rfl ?_
  refine Rn_iconst dX3_come_32 rfl ?_
  refine Rn_putfield (ci := 3) (k := 5) dX3_come_33 rfl in_3 tyX3_ok nmX3 (Nat.le_of_ble_eq_true rfl) wd_443 rfl (Or.inl rfl) (show (1 : Int) = 0 ∨ (1 : Int) = 1 by decide) m3 h2 ?_
  exact k
theorem BX3_come_36 {d bc bs : Nat} {h : aH} {n : Nat} {Q : aQ} {r0 : Option Nat} {x1 x2 x3 x4 : Int} (k : Q none h n) : Rn d (bc) (bs) mX3_come 36 [some (vR r0), some (vI x1), some (vI x2), some (vI x3), some (vI x4)] [] h n Q := by
  exact Rn_return rfl dX3_come_36 k
theorem dX3_countReadings_0 : decode cX3_countReadings 0 = .ok (.iload_n 2, 1) := by decide +kernel
theorem dX3_countReadings_1 : decode cX3_countReadings 1 = .ok (.invokestatic 42, 3) := by decide +kernel
theorem dX3_countReadings_4 : decode cX3_countReadings 4 = .ok (.istore_n 3, 1) := by decide +kernel
theorem dX3_countReadings_5 : decode cX3_countReadings 5 = .ok (.iconst 0, 1) := by decide +kernel
theorem dX3_countReadings_6 : decode cX3_countReadings 6 = .ok (.istore 4, 2) := by decide +kernel
theorem dX3_countReadings_8 : decode cX3_countReadings 8 = .ok (.iload 4, 2) := by decide +kernel
theorem dX3_countReadings_10 : decode cX3_countReadings 10 = .ok (.iload_n 3, 1) := by decide +kernel
theorem dX3_countReadings_11 : decode cX3_countReadings 11 = .ok (.if_icmp .gt 126, 3) := by decide +kernel
theorem dX3_countReadings_14 : decode cX3_countReadings 14 = .ok (.iload 4, 2) := by decide +kernel
theorem dX3_countReadings_16 : decode cX3_countReadings 16 = .ok (.aload_n 0, 1) := by decide +kernel
theorem dX3_countReadings_17 : decode cX3_countReadings 17 = .ok (.getfield 15, 3) := by decide +kernel
theorem dX3_countReadings_20 : decode cX3_countReadings 20 = .ok (.arraylength, 1) := by decide +kernel
theorem dX3_countReadings_21 : decode cX3_countReadings 21 = .ok (.if_icmp .ge 116, 3) := by decide +kernel
theorem dX3_countReadings_24 : decode cX3_countReadings 24 = .ok (.aload_n 0, 1) := by decide +kernel
theorem dX3_countReadings_25 : decode cX3_countReadings 25 = .ok (.getfield 15, 3) := by decide +kernel
theorem dX3_countReadings_28 : decode cX3_countReadings 28 = .ok (.iload 4, 2) := by decide +kernel
theorem dX3_countReadings_30 : decode cX3_countReadings 30 = .ok (.iload 4, 2) := by decide +kernel
theorem dX3_countReadings_32 : decode cX3_countReadings 32 = .ok (.ifCond .ne 7, 3) := by decide +kernel
theorem dX3_countReadings_35 : decode cX3_countReadings 35 = .ok (.lconst 1, 1) := by decide +kernel
theorem dX3_countReadings_36 : decode cX3_countReadings 36 = .ok (.goto 4, 3) := by decide +kernel
theorem dX3_countReadings_39 : decode cX3_countReadings 39 = .ok (.lconst 0, 1) := by decide +kernel
theorem dX3_countReadings_40 : decode cX3_countReadings 40 = .ok (.lastore, 1) := by decide +kernel
theorem dX3_countReadings_41 : decode cX3_countReadings 41 = .ok (.iload_n 2, 1) := by decide +kernel
theorem dX3_countReadings_42 : decode cX3_countReadings 42 = .ok (.iload_n 3, 1) := by decide +kernel
theorem dX3_countReadings_43 : decode cX3_countReadings 43 = .ok (.iload 4, 2) := by decide +kernel
theorem dX3_countReadings_45 : decode cX3_countReadings 45 = .ok (.isub, 1) := by decide +kernel
theorem dX3_countReadings_46 : decode cX3_countReadings 46 = .ok (.invokestatic 45, 3) := by decide +kernel
theorem dX3_countReadings_49 : decode cX3_countReadings 49 = .ok (.istore 5, 2) := by decide +kernel
theorem dX3_countReadings_51 : decode cX3_countReadings 51 = .ok (.iconst 0, 1) := by decide +kernel
theorem dX3_countReadings_52 : decode cX3_countReadings 52 = .ok (.istore 6, 2) := by decide +kernel
theorem dX3_countReadings_54 : decode cX3_countReadings 54 = .ok (.iload 6, 2) := by decide +kernel
theorem dX3_countReadings_56 : decode cX3_countReadings 56 = .ok (.aload_n 1, 1) := by decide +kernel
theorem dX3_countReadings_57 : decode cX3_countReadings 57 = .ok (.getfield 55, 3) := by decide +kernel
theorem dX3_countReadings_60 : decode cX3_countReadings 60 = .ok (.if_icmp .ge 71, 3) := by decide +kernel
theorem dX3_countReadings_63 : decode cX3_countReadings 63 = .ok (.aload_n 1, 1) := by decide +kernel
theorem dX3_countReadings_64 : decode cX3_countReadings 64 = .ok (.iload 6, 2) := by decide +kernel
theorem dX3_countReadings_66 : decode cX3_countReadings 66 = .ok (.invokevirtual 60, 3) := by decide +kernel
theorem dX3_countReadings_69 : decode cX3_countReadings 69 = .ok (.istore 7, 2) := by decide +kernel
theorem dX3_countReadings_71 : decode cX3_countReadings 71 = .ok (.iload 7, 2) := by decide +kernel
theorem dX3_countReadings_73 : decode cX3_countReadings 73 = .ok (.invokestatic 42, 3) := by decide +kernel
theorem dX3_countReadings_76 : decode cX3_countReadings 76 = .ok (.istore 8, 2) := by decide +kernel
theorem dX3_countReadings_78 : decode cX3_countReadings 78 = .ok (.iload 8, 2) := by decide +kernel
theorem dX3_countReadings_80 : decode cX3_countReadings 80 = .ok (.ifCond .le 45, 3) := by decide +kernel
theorem dX3_countReadings_83 : decode cX3_countReadings 83 = .ok (.iload 8, 2) := by decide +kernel
theorem dX3_countReadings_85 : decode cX3_countReadings 85 = .ok (.iload 4, 2) := by decide +kernel
theorem dX3_countReadings_87 : decode cX3_countReadings 87 = .ok (.if_icmp .gt 38, 3) := by decide +kernel
theorem dX3_countReadings_90 : decode cX3_countReadings 90 = .ok (.iload 5, 2) := by decide +kernel
theorem dX3_countReadings_92 : decode cX3_countReadings 92 = .ok (.iload 8, 2) := by decide +kernel
theorem dX3_countReadings_94 : decode cX3_countReadings 94 = .ok (.invokestatic 83, 3) := by decide +kernel
theorem dX3_countReadings_97 : decode cX3_countReadings 97 = .ok (.iload 7, 2) := by decide +kernel
theorem dX3_countReadings_99 : decode cX3_countReadings 99 = .ok (.if_icmp .eq 6, 3) := by decide +kernel
theorem dX3_countReadings_102 : decode cX3_countReadings 102 = .ok (.goto 23, 3) := by decide +kernel
theorem dX3_countReadings_105 : decode cX3_countReadings 105 = .ok (.aload_n 0, 1) := by decide +kernel
theorem dX3_countReadings_106 : decode cX3_countReadings 106 = .ok (.getfield 15, 3) := by decide +kernel
theorem dX3_countReadings_109 : decode cX3_countReadings 109 = .ok (.iload 4, 2) := by decide +kernel
theorem dX3_countReadings_111 : decode cX3_countReadings 111 = .ok (.dup2, 1) := by decide +kernel
theorem dX3_countReadings_112 : decode cX3_countReadings 112 = .ok (.laload, 1) := by decide +kernel
theorem dX3_countReadings_113 : decode cX3_countReadings 113 = .ok (.aload_n 0, 1) := by decide +kernel
theorem dX3_countReadings_114 : decode cX3_countReadings 114 = .ok (.getfield 15, 3) := by decide +kernel
theorem dX3_countReadings_117 : decode cX3_countReadings 117 = .ok (.iload 4, 2) := by decide +kernel
theorem dX3_countReadings_119 : decode cX3_countReadings 119 = .ok (.iload 8, 2) := by decide +kernel
theorem dX3_countReadings_121 : decode cX3_countReadings 121 = .ok (.isub, 1) := by decide +kernel
theorem dX3_countReadings_122 : decode cX3_countReadings 122 = .ok (.laload, 1) := by decide +kernel
theorem dX3_countReadings_123 : decode cX3_countReadings 123 = .ok (.ladd, 1) := by decide +kernel
theorem dX3_countReadings_124 : decode cX3_countReadings 124 = .ok (.lastore, 1) := by decide +kernel
theorem dX3_countReadings_125 : decode cX3_countReadings 125 = .ok (.iinc 6 1, 3) := by decide +kernel
theorem dX3_countReadings_128 : decode cX3_countReadings 128 = .ok (.goto (-74), 3) := by decide +kernel
theorem dX3_countReadings_131 : decode cX3_countReadings 131 = .ok (.iinc 4 1, 3) := by decide +kernel
theorem dX3_countReadings_134 : decode cX3_countReadings 134 = .ok (.goto (-126), 3) := by decide +kernel
theorem dX3_countReadings_137 : decode cX3_countReadings 137 = .ok (.iload_n 3, 1) := by decide +kernel
theorem dX3_countReadings_138 : decode cX3_countReadings 138 = .ok (.aload_n 0, 1) := by decide +kernel
theorem dX3_countReadings_139 : decode cX3_countReadings 139 = .ok (.getfield 15, 3) := by decide +kernel
theorem dX3_countReadings_142 : decode cX3_countReadings 142 = .ok (.arraylength, 1) := by decide +kernel
theorem dX3_countReadings_143 : decode cX3_countReadings 143 = .ok (.if_icmp .ge 12, 3) := by decide +kernel
theorem dX3_countReadings_146 : decode cX3_countReadings 146 = .ok (.aload_n 0, 1) := by decide +kernel
theorem dX3_countReadings_147 : decode cX3_countReadings 147 = .ok (.getfield 15, 3) := by decide +kernel
theorem dX3_countReadings_150 : decode cX3_countReadings 150 = .ok (.iload_n 3, 1) := by decide +kernel
theorem dX3_countReadings_151 : decode cX3_countReadings 151 = .ok (.laload, 1) := by decide +kernel
theorem dX3_countReadings_152 : decode cX3_countReadings 152 = .ok (.goto 4, 3) := by decide +kernel
theorem dX3_countReadings_155 : decode cX3_countReadings 155 = .ok (.lconst 0, 1) := by decide +kernel
theorem dX3_countReadings_156 : decode cX3_countReadings 156 = .ok (.lreturn, 1) := by decide +kernel
theorem BX3_countReadings_0 {d bc bs : Nat} {h : aH} {n : Nat} {Q : aQ} {r0 r1 : Option Nat} {x2 : Int} {l3 l4 l5 l6 l7 l8 : Option aV} (k : Rn d 0 0 mX3_digitsOf 0 [some (vI x2), none, none] [] h n (fun v h1 n1 => Rn (d + 1) bc bs mX3_countReadings 4 [some (vR r0), some (vR r1), some (vI x2), l3, l4, l5, l6, l7, l8] (v.toList ++ []) h1 n1 Q)) : Rn (d + 1) (bc) (bs) mX3_countReadings 0 [some (vR r0), some (vR r1), some (vI x2), l3, l4, l5, l6, l7, l8] [] h n Q := by
  refine Rn_iload_n dX3_countReadings_0 rfl rfl ?_
  exact Rn_callS (avs := [vI x2]) (st := []) (bc1 := 0) (bs1 := 0) (bc2 := bc) (bs2 := bs) fx_X3_digitsOf dX3_countReadings_1 (Or.inl wd_1188) wd_1189 rfl (Nat.le_of_ble_eq_true rfl) (Nat.le_of_ble_eq_true rfl) (by omega) (by omega) (ls1 := [some (vI x2), none, none]) rfl k
theorem BX3_countReadings_4 {d bc bs : Nat} {h : aH} {n : Nat} {Q : aQ} {r0 r1 : Option Nat} {x2 s0 : Int} {l3 l4 l5 l6 l7 l8 : Option aV} (k : Rn d bc bs mX3_countReadings 8 [some (vR r0), some (vR r1), some (vI x2), some (vI s0), some (vI 0), l5, l6, l7, l8] [] h n Q) : Rn d (bc) (bs) mX3_countReadings 4 [some (vR r0), some (vR r1), some (vI x2), l3, l4, l5, l6, l7, l8] [vI s0] h n Q := by
  refine Rn_istore_n dX3_countReadings_4 rfl (Nat.le_of_ble_eq_true rfl) rfl rfl ?_
  refine Rn_iconst dX3_countReadings_5 rfl ?_
  refine Rn_istore dX3_countReadings_6 (Nat.le_of_ble_eq_true rfl) rfl rfl ?_
  exact k
theorem BX3_countReadings_8 {d bc bs : Nat} {h : aH} {n : Nat} {Q : aQ} {r0 r1 : Option Nat} {x2 x3 x4 : Int} {l5 l6 l7 l8 : Option aV} (kt : x3 < x4 → Rn d bc bs mX3_countReadings 137 [some (vR r0), some (vR r1), some (vI x2), some (vI x3), some (vI x4), l5, l6, l7, l8] [] h n Q) (kf : x4 ≤ x3 → Rn d bc bs mX3_countReadings 14 [some (vR r0), some (vR r1), some (vI x2), some (vI x3), some (vI x4), l5, l6, l7, l8] [] h n Q) : Rn d (bc) (bs) mX3_countReadings 8 [some (vR r0), some (vR r1), some (vI x2), some (vI x3), some (vI x4), l5, l6, l7, l8] [] h n Q := by
  refine Rn_iload dX3_countReadings_8 rfl ?_
  refine Rn_iload_n dX3_countReadings_10 rfl rfl ?_
  refine Rn_icmpgt (tgt := 137) dX3_countReadings_11 rfl ?_ ?_
  · exact kt
  · exact kf
theorem BX3_countReadings_14 {d bc bs : Nat} {h : aH} {n : Nat} {Q : aQ} {ar0 at3 : Nat} {r1 : Option Nat} {x2 x3 x4 : Int} {l5 l6 l7 l8 : Option aV} {f1 : List aV} {w5 : List Int} (h2 : h ar0 = cO 3 f1) (g4 : f1[1]? = some (vR (some at3))) (h6 : h at3 = cJ w5) (y7 : w5.length < 2147483648) (z8 : at3 ≠ 0) (kt : (w5.length : Int) ≤ x4 → Rn d bc bs mX3_countReadings 137 [some (vR (some ar0)), some (vR r1), some (vI x2), some (vI x3), some (vI x4), l5, l6, l7, l8] [] h n Q) (kf : x4 < (w5.length : Int) → Rn d bc bs mX3_countReadings 24 [some (vR (some ar0)), some (vR r1), some (vI x2), some (vI x3), some (vI x4), l5, l6, l7, l8] [] h n Q) : Rn d (bc) (bs) mX3_countReadings 14 [some (vR (some ar0)), some (vR r1), some (vI x2), some (vI x3), some (vI x4), l5, l6, l7, l8] [] h n Q := by
  refine Rn_iload dX3_countReadings_14 rfl ?_
  refine Rn_aload_n dX3_countReadings_16 rfl rfl rfl ?_
  refine Rn_getfield (ci := 3) (k := 1) dX3_countReadings_17 rfl in_3 (Nat.le_of_ble_eq_true rfl) wd_439 rfl h2 g4 ?_
  refine Rn_alenJ dX3_countReadings_20 z8 h6 y7 ?_
  refine Rn_icmpge (tgt := 137) dX3_countReadings_21 rfl ?_ ?_
  · exact kt
  · exact kf
theorem BX3_countReadings_24 {d bc bs : Nat} {h : aH} {n : Nat} {Q : aQ} {ar0 : Nat} {r1 t3 : Option Nat} {x2 x3 x4 : Int} {l5 l6 l7 l8 : Option aV} {f1 : List aV} (h2 : h ar0 = cO 3 f1) (g4 : f1[1]? = some (vR t3)) (kt : x4 ≠ 0 → Rn d bc bs mX3_countReadings 39 [some (vR (some ar0)), some (vR r1), some (vI x2), some (vI x3), some (vI x4), l5, l6, l7, l8] [vI x4, vR t3] h n Q) (kf : x4 = 0 → Rn d bc bs mX3_countReadings 35 [some (vR (some ar0)), some (vR r1), some (vI x2), some (vI x3), some (vI x4), l5, l6, l7, l8] [vI x4, vR t3] h n Q) : Rn d (bc) (bs) mX3_countReadings 24 [some (vR (some ar0)), some (vR r1), some (vI x2), some (vI x3), some (vI x4), l5, l6, l7, l8] [] h n Q := by
  refine Rn_aload_n dX3_countReadings_24 rfl rfl rfl ?_
  refine Rn_getfield (ci := 3) (k := 1) dX3_countReadings_25 rfl in_3 (Nat.le_of_ble_eq_true rfl) wd_439 rfl h2 g4 ?_
  refine Rn_iload dX3_countReadings_28 rfl ?_
  refine Rn_iload dX3_countReadings_30 rfl ?_
  refine Rn_ifne (tgt := 39) dX3_countReadings_32 rfl ?_ ?_
  · exact kt
  · exact kf
theorem BX3_countReadings_35 {d bc bs : Nat} {h : aH} {n : Nat} {Q : aQ} {r0 r1 : Option Nat} {x2 x3 x4 s1 : Int} {l5 l6 l7 l8 : Option aV} {aq0 : Nat} {w1 : List Int} (h2 : h aq0 = cJ w1) (i3 : 0 ≤ s1) (j4 : s1 < w1.length) (z5 : aq0 ≠ 0) (k : Rn d bc bs mX3_countReadings 41 [some (vR r0), some (vR r1), some (vI x2), some (vI x3), some (vI x4), l5, l6, l7, l8] [] (up h aq0 (cJ (w1.set (s1 : Int).toNat 1))) n Q) : Rn d (bc) (bs) mX3_countReadings 35 [some (vR r0), some (vR r1), some (vI x2), some (vI x3), some (vI x4), l5, l6, l7, l8] [vI s1, vR (some aq0)] h n Q := by
  refine Rn_lconst (x := 1) dX3_countReadings_35 rfl ?_
  refine Rn_goto (tgt := 40) dX3_countReadings_36 rfl ?_
  refine Rn_lastore dX3_countReadings_40 z5 h2 i3 j4 ?_
  exact k
theorem BX3_countReadings_39 {d bc bs : Nat} {h : aH} {n : Nat} {Q : aQ} {r0 r1 : Option Nat} {x2 x3 x4 s1 : Int} {l5 l6 l7 l8 : Option aV} {aq0 : Nat} {w1 : List Int} (h2 : h aq0 = cJ w1) (i3 : 0 ≤ s1) (j4 : s1 < w1.length) (z5 : aq0 ≠ 0) (k : Rn d bc bs mX3_countReadings 41 [some (vR r0), some (vR r1), some (vI x2), some (vI x3), some (vI x4), l5, l6, l7, l8] [] (up h aq0 (cJ (w1.set (s1 : Int).toNat 0))) n Q) : Rn d (bc) (bs) mX3_countReadings 39 [some (vR r0), some (vR r1), some (vI x2), some (vI x3), some (vI x4), l5, l6, l7, l8] [vI s1, vR (some aq0)] h n Q := by
  refine Rn_lconst (x := 0) dX3_countReadings_39 rfl ?_
  refine Rn_lastore dX3_countReadings_40 z5 h2 i3 j4 ?_
  exact k
theorem BX3_countReadings_41 {d bc bs : Nat} {h : aH} {n : Nat} {Q : aQ} {r0 r1 : Option Nat} {x2 x3 x4 : Int} {l5 l6 l7 l8 : Option aV} (b1 : -2147483648 ≤ x3 - x4 ∧ x3 - x4 < 2147483648) (k : Rn d 0 0 mX3_withoutLast 0 [some (vI x2), some (vI (x3 - x4)), none] [] h n (fun v h1 n1 => Rn (d + 1) bc bs mX3_countReadings 49 [some (vR r0), some (vR r1), some (vI x2), some (vI x3), some (vI x4), l5, l6, l7, l8] (v.toList ++ []) h1 n1 Q)) : Rn (d + 1) (bc) (bs) mX3_countReadings 41 [some (vR r0), some (vR r1), some (vI x2), some (vI x3), some (vI x4), l5, l6, l7, l8] [] h n Q := by
  refine Rn_iload_n dX3_countReadings_41 rfl rfl ?_
  refine Rn_iload_n dX3_countReadings_42 rfl rfl ?_
  refine Rn_iload dX3_countReadings_43 rfl ?_
  refine Rn_isub dX3_countReadings_45 ?_
  rw [w32_id b1.1 b1.2]
  exact Rn_callS (avs := [vI x2, vI (x3 - x4)]) (st := []) (bc1 := 0) (bs1 := 0) (bc2 := bc) (bs2 := bs) fx_X3_withoutLast dX3_countReadings_46 (Or.inl wd_1191) wd_1192 rfl (Nat.le_of_ble_eq_true rfl) (Nat.le_of_ble_eq_true rfl) (by omega) (by omega) (ls1 := [some (vI x2), some (vI (x3 - x4)), none]) rfl k
theorem BX3_countReadings_49 {d bc bs : Nat} {h : aH} {n : Nat} {Q : aQ} {r0 r1 : Option Nat} {x2 x3 x4 s0 : Int} {l5 l6 l7 l8 : Option aV} (k : Rn d bc bs mX3_countReadings 54 [some (vR r0), some (vR r1), some (vI x2), some (vI x3), some (vI x4), some (vI s0), some (vI 0), l7, l8] [] h n Q) : Rn d (bc) (bs) mX3_countReadings 49 [some (vR r0), some (vR r1), some (vI x2), some (vI x3), some (vI x4), l5, l6, l7, l8] [vI s0] h n Q := by
  refine Rn_istore dX3_countReadings_49 (Nat.le_of_ble_eq_true rfl) rfl rfl ?_
  refine Rn_iconst dX3_countReadings_51 rfl ?_
  refine Rn_istore dX3_countReadings_52 (Nat.le_of_ble_eq_true rfl) rfl rfl ?_
  exact k
theorem BX3_countReadings_54 {d bc bs : Nat} {h : aH} {n : Nat} {Q : aQ} {r0 : Option Nat} {ar1 : Nat} {x2 x3 x4 x5 x6 v3 : Int} {l7 l8 : Option aV} {f1 : List aV} (h2 : h ar1 = cO 5 f1) (g4 : f1[8]? = some (vI v3)) (kt : v3 ≤ x6 → Rn d bc bs mX3_countReadings 131 [some (vR r0), some (vR (some ar1)), some (vI x2), some (vI x3), some (vI x4), some (vI x5), some (vI x6), l7, l8] [] h n Q) (kf : x6 < v3 → Rn d bc bs mX3_countReadings 63 [some (vR r0), some (vR (some ar1)), some (vI x2), some (vI x3), some (vI x4), some (vI x5), some (vI x6), l7, l8] [] h n Q) : Rn d (bc) (bs) mX3_countReadings 54 [some (vR r0), some (vR (some ar1)), some (vI x2), some (vI x3), some (vI x4), some (vI x5), some (vI x6), l7, l8] [] h n Q := by
  refine Rn_iload dX3_countReadings_54 rfl ?_
  refine Rn_aload_n dX3_countReadings_56 rfl rfl rfl ?_
  refine Rn_getfield (ci := 5) (k := 8) dX3_countReadings_57 rfl in_5 (Nat.le_of_ble_eq_true rfl) wd_257 rfl h2 g4 ?_
  refine Rn_icmpge (tgt := 131) dX3_countReadings_60 rfl ?_ ?_
  · exact kt
  · exact kf
theorem BX3_countReadings_63 {d bc bs : Nat} {h : aH} {n : Nat} {Q : aQ} {r0 : Option Nat} {ar1 : Nat} {x2 x3 x4 x5 x6 : Int} {l7 l8 : Option aV} {f1 : List aV} (h2 : h ar1 = cO 5 f1) (k : Rn d 0 0 mX5_word 0 [some (vR (some ar1)), some (vI x6)] [] h n (fun v h1 n1 => Rn (d + 1) bc bs mX3_countReadings 69 [some (vR r0), some (vR (some ar1)), some (vI x2), some (vI x3), some (vI x4), some (vI x5), some (vI x6), l7, l8] (v.toList ++ []) h1 n1 Q)) : Rn (d + 1) (bc) (bs) mX3_countReadings 63 [some (vR r0), some (vR (some ar1)), some (vI x2), some (vI x3), some (vI x4), some (vI x5), some (vI x6), l7, l8] [] h n Q := by
  refine Rn_aload_n dX3_countReadings_63 rfl rfl rfl ?_
  refine Rn_iload dX3_countReadings_64 rfl ?_
  exact Rn_callV (ci := 5) (avs := [vI x6]) (st := []) (bc1 := 0) (bs1 := 0) (bc2 := bc) (bs2 := bs) fx_X5_word dX3_countReadings_66 wd_1184 wd_1170 wd_1171 rfl h2 rfl (Nat.le_of_ble_eq_true rfl) (Nat.le_of_ble_eq_true rfl) (by omega) (by omega) (ls1 := [some (vR (some ar1)), some (vI x6)]) rfl k
theorem BX3_countReadings_69 {d bc bs : Nat} {h : aH} {n : Nat} {Q : aQ} {r0 r1 : Option Nat} {x2 x3 x4 x5 x6 s0 : Int} {l7 l8 : Option aV} (k : Rn d 0 0 mX3_digitsOf 0 [some (vI s0), none, none] [] h n (fun v h1 n1 => Rn (d + 1) bc bs mX3_countReadings 76 [some (vR r0), some (vR r1), some (vI x2), some (vI x3), some (vI x4), some (vI x5), some (vI x6), some (vI s0), l8] (v.toList ++ []) h1 n1 Q)) : Rn (d + 1) (bc) (bs) mX3_countReadings 69 [some (vR r0), some (vR r1), some (vI x2), some (vI x3), some (vI x4), some (vI x5), some (vI x6), l7, l8] [vI s0] h n Q := by
  refine Rn_istore dX3_countReadings_69 (Nat.le_of_ble_eq_true rfl) rfl rfl ?_
  refine Rn_iload dX3_countReadings_71 rfl ?_
  exact Rn_callS (avs := [vI s0]) (st := []) (bc1 := 0) (bs1 := 0) (bc2 := bc) (bs2 := bs) fx_X3_digitsOf dX3_countReadings_73 (Or.inl wd_1188) wd_1189 rfl (Nat.le_of_ble_eq_true rfl) (Nat.le_of_ble_eq_true rfl) (by omega) (by omega) (ls1 := [some (vI s0), none, none]) rfl k
theorem BX3_countReadings_76 {d bc bs : Nat} {h : aH} {n : Nat} {Q : aQ} {r0 r1 : Option Nat} {x2 x3 x4 x5 x6 x7 s0 : Int} {l8 : Option aV} (kt : s0 ≤ 0 → Rn d bc bs mX3_countReadings 125 [some (vR r0), some (vR r1), some (vI x2), some (vI x3), some (vI x4), some (vI x5), some (vI x6), some (vI x7), some (vI s0)] [] h n Q) (kf : 0 < s0 → Rn d bc bs mX3_countReadings 83 [some (vR r0), some (vR r1), some (vI x2), some (vI x3), some (vI x4), some (vI x5), some (vI x6), some (vI x7), some (vI s0)] [] h n Q) : Rn d (bc) (bs) mX3_countReadings 76 [some (vR r0), some (vR r1), some (vI x2), some (vI x3), some (vI x4), some (vI x5), some (vI x6), some (vI x7), l8] [vI s0] h n Q := by
  refine Rn_istore dX3_countReadings_76 (Nat.le_of_ble_eq_true rfl) rfl rfl ?_
  refine Rn_iload dX3_countReadings_78 rfl ?_
  refine Rn_ifle (tgt := 125) dX3_countReadings_80 rfl ?_ ?_
  · exact kt
  · exact kf
theorem BX3_countReadings_83 {d bc bs : Nat} {h : aH} {n : Nat} {Q : aQ} {r0 r1 : Option Nat} {x2 x3 x4 x5 x6 x7 x8 : Int} (kt : x4 < x8 → Rn d bc bs mX3_countReadings 125 [some (vR r0), some (vR r1), some (vI x2), some (vI x3), some (vI x4), some (vI x5), some (vI x6), some (vI x7), some (vI x8)] [] h n Q) (kf : x8 ≤ x4 → Rn d bc bs mX3_countReadings 90 [some (vR r0), some (vR r1), some (vI x2), some (vI x3), some (vI x4), some (vI x5), some (vI x6), some (vI x7), some (vI x8)] [] h n Q) : Rn d (bc) (bs) mX3_countReadings 83 [some (vR r0), some (vR r1), some (vI x2), some (vI x3), some (vI x4), some (vI x5), some (vI x6), some (vI x7), some (vI x8)] [] h n Q := by
  refine Rn_iload dX3_countReadings_83 rfl ?_
  refine Rn_iload dX3_countReadings_85 rfl ?_
  refine Rn_icmpgt (tgt := 125) dX3_countReadings_87 rfl ?_ ?_
  · exact kt
  · exact kf
theorem BX3_countReadings_90 {d bc bs : Nat} {h : aH} {n : Nat} {Q : aQ} {r0 r1 : Option Nat} {x2 x3 x4 x5 x6 x7 x8 : Int} (k : Rn d 0 0 mX3_lastOf 0 [some (vI x5), some (vI x8), none] [] h n (fun v h1 n1 => Rn (d + 1) bc bs mX3_countReadings 97 [some (vR r0), some (vR r1), some (vI x2), some (vI x3), some (vI x4), some (vI x5), some (vI x6), some (vI x7), some (vI x8)] (v.toList ++ []) h1 n1 Q)) : Rn (d + 1) (bc) (bs) mX3_countReadings 90 [some (vR r0), some (vR r1), some (vI x2), some (vI x3), some (vI x4), some (vI x5), some (vI x6), some (vI x7), some (vI x8)] [] h n Q := by
  refine Rn_iload dX3_countReadings_90 rfl ?_
  refine Rn_iload dX3_countReadings_92 rfl ?_
  exact Rn_callS (avs := [vI x5, vI x8]) (st := []) (bc1 := 0) (bs1 := 0) (bc2 := bc) (bs2 := bs) fx_X3_lastOf dX3_countReadings_94 (Or.inl wd_1211) wd_1212 rfl (Nat.le_of_ble_eq_true rfl) (Nat.le_of_ble_eq_true rfl) (by omega) (by omega) (ls1 := [some (vI x5), some (vI x8), none]) rfl k
theorem BX3_countReadings_97 {d bc bs : Nat} {h : aH} {n : Nat} {Q : aQ} {r0 r1 : Option Nat} {x2 x3 x4 x5 x6 x7 x8 s0 : Int} (kt : s0 = x7 → Rn d bc bs mX3_countReadings 105 [some (vR r0), some (vR r1), some (vI x2), some (vI x3), some (vI x4), some (vI x5), some (vI x6), some (vI x7), some (vI x8)] [] h n Q) (kf : s0 ≠ x7 → Rn d bc bs mX3_countReadings 102 [some (vR r0), some (vR r1), some (vI x2), some (vI x3), some (vI x4), some (vI x5), some (vI x6), some (vI x7), some (vI x8)] [] h n Q) : Rn d (bc) (bs) mX3_countReadings 97 [some (vR r0), some (vR r1), some (vI x2), some (vI x3), some (vI x4), some (vI x5), some (vI x6), some (vI x7), some (vI x8)] [vI s0] h n Q := by
  refine Rn_iload dX3_countReadings_97 rfl ?_
  refine Rn_icmpeq (tgt := 105) dX3_countReadings_99 rfl ?_ ?_
  · exact kt
  · exact kf
theorem BX3_countReadings_102 {d bc bs : Nat} {h : aH} {n : Nat} {Q : aQ} {r0 r1 : Option Nat} {x2 x3 x4 x5 x6 x7 x8 : Int} (b1 : -2147483648 ≤ x6 + 1 ∧ x6 + 1 < 2147483648) (k : Rn d bc bs mX3_countReadings 54 [some (vR r0), some (vR r1), some (vI x2), some (vI x3), some (vI x4), some (vI x5), some (vI (x6 + 1)), some (vI x7), some (vI x8)] [] h n Q) : Rn d (bc) (bs) mX3_countReadings 102 [some (vR r0), some (vR r1), some (vI x2), some (vI x3), some (vI x4), some (vI x5), some (vI x6), some (vI x7), some (vI x8)] [] h n Q := by
  refine Rn_goto (tgt := 125) dX3_countReadings_102 rfl ?_
  refine Rn_iinc dX3_countReadings_125 rfl (Nat.le_of_ble_eq_true rfl) rfl rfl rfl ?_
  rw [w32_id b1.1 b1.2]
  refine Rn_goto (tgt := 54) dX3_countReadings_128 rfl ?_
  exact k
theorem BX3_countReadings_105 {d bc bs : Nat} {h : aH} {n : Nat} {Q : aQ} {ar0 at3 : Nat} {r1 : Option Nat} {x2 x3 x4 x5 x6 x7 x8 v7 v12 : Int} {f1 : List aV} {w5 : List Int} (h2 : h ar0 = cO 3 f1) (g4 : f1[1]? = some (vR (some at3))) (h6 : h at3 = cJ w5) (i8 : 0 ≤ x4) (g9 : w5[(x4 : Int).toNat]? = some v7) (z10 : at3 ≠ 0) (b11 : -2147483648 ≤ x4 - x8 ∧ x4 - x8 < 2147483648) (i13 : 0 ≤ x4 - x8) (g14 : w5[(x4 - x8 : Int).toNat]? = some v12) (b15 : -9223372036854775808 ≤ v7 + v12 ∧ v7 + v12 < 9223372036854775808) (j16 : x4 < w5.length) (k : Rn d bc bs mX3_countReadings 125 [some (vR (some ar0)), some (vR r1), some (vI x2), some (vI x3), some (vI x4), some (vI x5), some (vI x6), some (vI x7), some (vI x8)] [] (up h at3 (cJ (w5.set (x4 : Int).toNat (v7 + v12)))) n Q) : Rn d (bc) (bs) mX3_countReadings 105 [some (vR (some ar0)), some (vR r1), some (vI x2), some (vI x3), some (vI x4), some (vI x5), some (vI x6), some (vI x7), some (vI x8)] [] h n Q := by
  refine Rn_aload_n dX3_countReadings_105 rfl rfl rfl ?_
  refine Rn_getfield (ci := 3) (k := 1) dX3_countReadings_106 rfl in_3 (Nat.le_of_ble_eq_true rfl) wd_439 rfl h2 g4 ?_
  refine Rn_iload dX3_countReadings_109 rfl ?_
  refine Rn_dup2 dX3_countReadings_111 rfl rfl ?_
  refine Rn_laload dX3_countReadings_112 z10 h6 i8 g9 ?_
  refine Rn_aload_n dX3_countReadings_113 rfl rfl rfl ?_
  refine Rn_getfield (ci := 3) (k := 1) dX3_countReadings_114 rfl in_3 (Nat.le_of_ble_eq_true rfl) wd_439 rfl h2 g4 ?_
  refine Rn_iload dX3_countReadings_117 rfl ?_
  refine Rn_iload dX3_countReadings_119 rfl ?_
  refine Rn_isub dX3_countReadings_121 ?_
  rw [w32_id b11.1 b11.2]
  refine Rn_laload dX3_countReadings_122 z10 h6 i13 g14 ?_
  refine Rn_ladd dX3_countReadings_123 ?_
  rw [w64_id b15.1 b15.2]
  refine Rn_lastore dX3_countReadings_124 z10 h6 i8 j16 ?_
  exact k
theorem BX3_countReadings_125 {d bc bs : Nat} {h : aH} {n : Nat} {Q : aQ} {r0 r1 : Option Nat} {x2 x3 x4 x5 x6 x7 x8 : Int} (b1 : -2147483648 ≤ x6 + 1 ∧ x6 + 1 < 2147483648) (k : Rn d bc bs mX3_countReadings 54 [some (vR r0), some (vR r1), some (vI x2), some (vI x3), some (vI x4), some (vI x5), some (vI (x6 + 1)), some (vI x7), some (vI x8)] [] h n Q) : Rn d (bc) (bs) mX3_countReadings 125 [some (vR r0), some (vR r1), some (vI x2), some (vI x3), some (vI x4), some (vI x5), some (vI x6), some (vI x7), some (vI x8)] [] h n Q := by
  refine Rn_iinc dX3_countReadings_125 rfl (Nat.le_of_ble_eq_true rfl) rfl rfl rfl ?_
  rw [w32_id b1.1 b1.2]
  refine Rn_goto (tgt := 54) dX3_countReadings_128 rfl ?_
  exact k
theorem BX3_countReadings_131 {d bc bs : Nat} {h : aH} {n : Nat} {Q : aQ} {r0 r1 : Option Nat} {x2 x3 x4 x5 x6 : Int} {l7 l8 : Option aV} (b1 : -2147483648 ≤ x4 + 1 ∧ x4 + 1 < 2147483648) (k : Rn d bc bs mX3_countReadings 8 [some (vR r0), some (vR r1), some (vI x2), some (vI x3), some (vI (x4 + 1)), some (vI x5), some (vI x6), l7, l8] [] h n Q) : Rn d (bc) (bs) mX3_countReadings 131 [some (vR r0), some (vR r1), some (vI x2), some (vI x3), some (vI x4), some (vI x5), some (vI x6), l7, l8] [] h n Q := by
  refine Rn_iinc dX3_countReadings_131 rfl (Nat.le_of_ble_eq_true rfl) rfl rfl rfl ?_
  rw [w32_id b1.1 b1.2]
  refine Rn_goto (tgt := 8) dX3_countReadings_134 rfl ?_
  exact k
theorem BX3_countReadings_137 {d bc bs : Nat} {h : aH} {n : Nat} {Q : aQ} {ar0 at3 : Nat} {r1 : Option Nat} {x2 x3 x4 : Int} {l5 l6 l7 l8 : Option aV} {f1 : List aV} {w5 : List Int} (h2 : h ar0 = cO 3 f1) (g4 : f1[1]? = some (vR (some at3))) (h6 : h at3 = cJ w5) (y7 : w5.length < 2147483648) (z8 : at3 ≠ 0) (kt : (w5.length : Int) ≤ x3 → Rn d bc bs mX3_countReadings 155 [some (vR (some ar0)), some (vR r1), some (vI x2), some (vI x3), some (vI x4), l5, l6, l7, l8] [] h n Q) (kf : x3 < (w5.length : Int) → Rn d bc bs mX3_countReadings 146 [some (vR (some ar0)), some (vR r1), some (vI x2), some (vI x3), some (vI x4), l5, l6, l7, l8] [] h n Q) : Rn d (bc) (bs) mX3_countReadings 137 [some (vR (some ar0)), some (vR r1), some (vI x2), some (vI x3), some (vI x4), l5, l6, l7, l8] [] h n Q := by
  refine Rn_iload_n dX3_countReadings_137 rfl rfl ?_
  refine Rn_aload_n dX3_countReadings_138 rfl rfl rfl ?_
  refine Rn_getfield (ci := 3) (k := 1) dX3_countReadings_139 rfl in_3 (Nat.le_of_ble_eq_true rfl) wd_439 rfl h2 g4 ?_
  refine Rn_alenJ dX3_countReadings_142 z8 h6 y7 ?_
  refine Rn_icmpge (tgt := 155) dX3_countReadings_143 rfl ?_ ?_
  · exact kt
  · exact kf
theorem BX3_countReadings_146 {d bc bs : Nat} {h : aH} {n : Nat} {Q : aQ} {ar0 at3 : Nat} {r1 : Option Nat} {x2 x3 x4 v7 : Int} {l5 l6 l7 l8 : Option aV} {f1 : List aV} {w5 : List Int} (h2 : h ar0 = cO 3 f1) (g4 : f1[1]? = some (vR (some at3))) (h6 : h at3 = cJ w5) (i8 : 0 ≤ x3) (g9 : w5[(x3 : Int).toNat]? = some v7) (z10 : at3 ≠ 0) (k : Q (some (vL v7)) h n) : Rn d (bc) (bs) mX3_countReadings 146 [some (vR (some ar0)), some (vR r1), some (vI x2), some (vI x3), some (vI x4), l5, l6, l7, l8] [] h n Q := by
  refine Rn_aload_n dX3_countReadings_146 rfl rfl rfl ?_
  refine Rn_getfield (ci := 3) (k := 1) dX3_countReadings_147 rfl in_3 (Nat.le_of_ble_eq_true rfl) wd_439 rfl h2 g4 ?_
  refine Rn_iload_n dX3_countReadings_150 rfl rfl ?_
  refine Rn_laload dX3_countReadings_151 z10 h6 i8 g9 ?_
  refine Rn_goto (tgt := 156) dX3_countReadings_152 rfl ?_
  exact Rn_lreturn rfl dX3_countReadings_156 k
theorem BX3_countReadings_155 {d bc bs : Nat} {h : aH} {n : Nat} {Q : aQ} {r0 r1 : Option Nat} {x2 x3 x4 : Int} {l5 l6 l7 l8 : Option aV} (k : Q (some (vL 0)) h n) : Rn d (bc) (bs) mX3_countReadings 155 [some (vR r0), some (vR r1), some (vI x2), some (vI x3), some (vI x4), l5, l6, l7, l8] [] h n Q := by
  refine Rn_lconst (x := 0) dX3_countReadings_155 rfl ?_
  exact Rn_lreturn rfl dX3_countReadings_156 k
theorem dX3_fewestSorters_0 : decode cX3_fewestSorters 0 = .ok (.iconst 0, 1) := by decide +kernel
theorem dX3_fewestSorters_1 : decode cX3_fewestSorters 1 = .ok (.istore_n 3, 1) := by decide +kernel
theorem dX3_fewestSorters_2 : decode cX3_fewestSorters 2 = .ok (.iload_n 3, 1) := by decide +kernel
theorem dX3_fewestSorters_3 : decode cX3_fewestSorters 3 = .ok (.iload_n 2, 1) := by decide +kernel
theorem dX3_fewestSorters_4 : decode cX3_fewestSorters 4 = .ok (.if_icmp .ge 25, 3) := by decide +kernel
theorem dX3_fewestSorters_7 : decode cX3_fewestSorters 7 = .ok (.aload_n 1, 1) := by decide +kernel
theorem dX3_fewestSorters_8 : decode cX3_fewestSorters 8 = .ok (.aload_n 0, 1) := by decide +kernel
theorem dX3_fewestSorters_9 : decode cX3_fewestSorters 9 = .ok (.getfield 19, 3) := by decide +kernel
theorem dX3_fewestSorters_12 : decode cX3_fewestSorters 12 = .ok (.iconst 0, 1) := by decide +kernel
theorem dX3_fewestSorters_13 : decode cX3_fewestSorters 13 = .ok (.iload_n 2, 1) := by decide +kernel
theorem dX3_fewestSorters_14 : decode cX3_fewestSorters 14 = .ok (.iload_n 3, 1) := by decide +kernel
theorem dX3_fewestSorters_15 : decode cX3_fewestSorters 15 = .ok (.invokestatic 95, 3) := by decide +kernel
theorem dX3_fewestSorters_18 : decode cX3_fewestSorters 18 = .ok (.ifCond .eq 5, 3) := by decide +kernel
theorem dX3_fewestSorters_21 : decode cX3_fewestSorters 21 = .ok (.iload_n 3, 1) := by decide +kernel
theorem dX3_fewestSorters_22 : decode cX3_fewestSorters 22 = .ok (.ireturn, 1) := by decide +kernel
theorem dX3_fewestSorters_23 : decode cX3_fewestSorters 23 = .ok (.iinc 3 1, 3) := by decide +kernel
theorem dX3_fewestSorters_26 : decode cX3_fewestSorters 26 = .ok (.goto (-24), 3) := by decide +kernel
theorem dX3_fewestSorters_29 : decode cX3_fewestSorters 29 = .ok (.aload_n 1, 1) := by decide +kernel
theorem dX3_fewestSorters_30 : decode cX3_fewestSorters 30 = .ok (.aload_n 0, 1) := by decide +kernel
theorem dX3_fewestSorters_31 : decode cX3_fewestSorters 31 = .ok (.getfield 19, 3) := by decide +kernel
theorem dX3_fewestSorters_34 : decode cX3_fewestSorters 34 = .ok (.iconst 0, 1) := by decide +kernel
theorem dX3_fewestSorters_35 : decode cX3_fewestSorters 35 = .ok (.iload_n 2, 1) := by decide +kernel
theorem dX3_fewestSorters_36 : decode cX3_fewestSorters 36 = .ok (.iload_n 2, 1) := by decide +kernel
theorem dX3_fewestSorters_37 : decode cX3_fewestSorters 37 = .ok (.invokestatic 95, 3) := by decide +kernel
theorem dX3_fewestSorters_40 : decode cX3_fewestSorters 40 = .ok (.pop, 1) := by decide +kernel
theorem dX3_fewestSorters_41 : decode cX3_fewestSorters 41 = .ok (.iload_n 2, 1) := by decide +kernel
theorem dX3_fewestSorters_42 : decode cX3_fewestSorters 42 = .ok (.ireturn, 1) := by decide +kernel
theorem BX3_fewestSorters_0 {d bc bs : Nat} {h : aH} {n : Nat} {Q : aQ} {r0 r1 : Option Nat} {x2 : Int} {l3 : Option aV} (k : Rn d bc bs mX3_fewestSorters 2 [some (vR r0), some (vR r1), some (vI x2), some (vI 0)] [] h n Q) : Rn d (bc) (bs) mX3_fewestSorters 0 [some (vR r0), some (vR r1), some (vI x2), l3] [] h n Q := by
  refine Rn_iconst dX3_fewestSorters_0 rfl ?_
  refine Rn_istore_n dX3_fewestSorters_1 rfl (Nat.le_of_ble_eq_true rfl) rfl rfl ?_
  exact k
theorem BX3_fewestSorters_2 {d bc bs : Nat} {h : aH} {n : Nat} {Q : aQ} {r0 r1 : Option Nat} {x2 x3 : Int} (kt : x2 ≤ x3 → Rn d bc bs mX3_fewestSorters 29 [some (vR r0), some (vR r1), some (vI x2), some (vI x3)] [] h n Q) (kf : x3 < x2 → Rn d bc bs mX3_fewestSorters 7 [some (vR r0), some (vR r1), some (vI x2), some (vI x3)] [] h n Q) : Rn d (bc) (bs) mX3_fewestSorters 2 [some (vR r0), some (vR r1), some (vI x2), some (vI x3)] [] h n Q := by
  refine Rn_iload_n dX3_fewestSorters_2 rfl rfl ?_
  refine Rn_iload_n dX3_fewestSorters_3 rfl rfl ?_
  refine Rn_icmpge (tgt := 29) dX3_fewestSorters_4 rfl ?_ ?_
  · exact kt
  · exact kf
theorem BX3_fewestSorters_7 {d bc bs : Nat} {h : aH} {n : Nat} {Q : aQ} {ar0 : Nat} {r1 t3 : Option Nat} {x2 x3 : Int} {f1 : List aV} (h2 : h ar0 = cO 3 f1) (g4 : f1[2]? = some (vR t3)) (k : Rn d 0 0 mX3_share 0 [some (vR r1), some (vR t3), some (vI 0), some (vI x2), some (vI x3), none] [] h n (fun v h1 n1 => Rn (d + 1) bc bs mX3_fewestSorters 18 [some (vR (some ar0)), some (vR r1), some (vI x2), some (vI x3)] (v.toList ++ []) h1 n1 Q)) : Rn (d + 1) (bc) (bs) mX3_fewestSorters 7 [some (vR (some ar0)), some (vR r1), some (vI x2), some (vI x3)] [] h n Q := by
  refine Rn_aload_n dX3_fewestSorters_7 rfl rfl rfl ?_
  refine Rn_aload_n dX3_fewestSorters_8 rfl rfl rfl ?_
  refine Rn_getfield (ci := 3) (k := 2) dX3_fewestSorters_9 rfl in_3 (Nat.le_of_ble_eq_true rfl) wd_440 rfl h2 g4 ?_
  refine Rn_iconst dX3_fewestSorters_12 rfl ?_
  refine Rn_iload_n dX3_fewestSorters_13 rfl rfl ?_
  refine Rn_iload_n dX3_fewestSorters_14 rfl rfl ?_
  exact Rn_callS (avs := [vR r1, vR t3, vI 0, vI x2, vI x3]) (st := []) (bc1 := 0) (bs1 := 0) (bc2 := bc) (bs2 := bs) fx_X3_share dX3_fewestSorters_15 (Or.inl wd_1248) wd_1249 rfl (Nat.le_of_ble_eq_true rfl) (Nat.le_of_ble_eq_true rfl) (by omega) (by omega) (ls1 := [some (vR r1), some (vR t3), some (vI 0), some (vI x2), some (vI x3), none]) rfl k
theorem BX3_fewestSorters_18 {d bc bs : Nat} {h : aH} {n : Nat} {Q : aQ} {r0 r1 : Option Nat} {x2 x3 s0 : Int} (kt : s0 = 0 → Rn d bc bs mX3_fewestSorters 23 [some (vR r0), some (vR r1), some (vI x2), some (vI x3)] [] h n Q) (kf : s0 ≠ 0 → Rn d bc bs mX3_fewestSorters 21 [some (vR r0), some (vR r1), some (vI x2), some (vI x3)] [] h n Q) : Rn d (bc) (bs) mX3_fewestSorters 18 [some (vR r0), some (vR r1), some (vI x2), some (vI x3)] [vI s0] h n Q := by
  refine Rn_ifeq (tgt := 23) dX3_fewestSorters_18 rfl ?_ ?_
  · exact kt
  · exact kf
theorem BX3_fewestSorters_21 {d bc bs : Nat} {h : aH} {n : Nat} {Q : aQ} {r0 r1 : Option Nat} {x2 x3 : Int} (k : Q (some (vI x3)) h n) : Rn d (bc) (bs) mX3_fewestSorters 21 [some (vR r0), some (vR r1), some (vI x2), some (vI x3)] [] h n Q := by
  refine Rn_iload_n dX3_fewestSorters_21 rfl rfl ?_
  exact Rn_ireturn rfl dX3_fewestSorters_22 k
theorem BX3_fewestSorters_23 {d bc bs : Nat} {h : aH} {n : Nat} {Q : aQ} {r0 r1 : Option Nat} {x2 x3 : Int} (b1 : -2147483648 ≤ x3 + 1 ∧ x3 + 1 < 2147483648) (k : Rn d bc bs mX3_fewestSorters 2 [some (vR r0), some (vR r1), some (vI x2), some (vI (x3 + 1))] [] h n Q) : Rn d (bc) (bs) mX3_fewestSorters 23 [some (vR r0), some (vR r1), some (vI x2), some (vI x3)] [] h n Q := by
  refine Rn_iinc dX3_fewestSorters_23 rfl (Nat.le_of_ble_eq_true rfl) rfl rfl rfl ?_
  rw [w32_id b1.1 b1.2]
  refine Rn_goto (tgt := 2) dX3_fewestSorters_26 rfl ?_
  exact k
theorem BX3_fewestSorters_29 {d bc bs : Nat} {h : aH} {n : Nat} {Q : aQ} {ar0 : Nat} {r1 t3 : Option Nat} {x2 x3 : Int} {f1 : List aV} (h2 : h ar0 = cO 3 f1) (g4 : f1[2]? = some (vR t3)) (k : Rn d 0 0 mX3_share 0 [some (vR r1), some (vR t3), some (vI 0), some (vI x2), some (vI x2), none] [] h n (fun v h1 n1 => Rn (d + 1) bc bs mX3_fewestSorters 40 [some (vR (some ar0)), some (vR r1), some (vI x2), some (vI x3)] (v.toList ++ []) h1 n1 Q)) : Rn (d + 1) (bc) (bs) mX3_fewestSorters 29 [some (vR (some ar0)), some (vR r1), some (vI x2), some (vI x3)] [] h n Q := by
  refine Rn_aload_n dX3_fewestSorters_29 rfl rfl rfl ?_
  refine Rn_aload_n dX3_fewestSorters_30 rfl rfl rfl ?_
  refine Rn_getfield (ci := 3) (k := 2) dX3_fewestSorters_31 rfl in_3 (Nat.le_of_ble_eq_true rfl) wd_440 rfl h2 g4 ?_
  refine Rn_iconst dX3_fewestSorters_34 rfl ?_
  refine Rn_iload_n dX3_fewestSorters_35 rfl rfl ?_
  refine Rn_iload_n dX3_fewestSorters_36 rfl rfl ?_
  exact Rn_callS (avs := [vR r1, vR t3, vI 0, vI x2, vI x2]) (st := []) (bc1 := 0) (bs1 := 0) (bc2 := bc) (bs2 := bs) fx_X3_share dX3_fewestSorters_37 (Or.inl wd_1248) wd_1249 rfl (Nat.le_of_ble_eq_true rfl) (Nat.le_of_ble_eq_true rfl) (by omega) (by omega) (ls1 := [some (vR r1), some (vR t3), some (vI 0), some (vI x2), some (vI x2), none]) rfl k
theorem BX3_fewestSorters_40 {d bc bs : Nat} {h : aH} {n : Nat} {Q : aQ} {r0 r1 : Option Nat} {x2 x3 s0 : Int} (k : Q (some (vI x2)) h n) : Rn d (bc) (bs) mX3_fewestSorters 40 [some (vR r0), some (vR r1), some (vI x2), some (vI x3)] [vI s0] h n Q := by
  refine Rn_pop dX3_fewestSorters_40 rfl ?_
  refine Rn_iload_n dX3_fewestSorters_41 rfl rfl ?_
  exact Rn_ireturn rfl dX3_fewestSorters_42 k
theorem dX3_sorterOf_0 : decode cX3_sorterOf 0 = .ok (.aload_n 0, 1) := by decide +kernel
theorem dX3_sorterOf_1 : decode cX3_sorterOf 1 = .ok (.getfield 19, 3) := by decide +kernel
theorem dX3_sorterOf_4 : decode cX3_sorterOf 4 = .ok (.iload_n 1, 1) := by decide +kernel
theorem dX3_sorterOf_5 : decode cX3_sorterOf 5 = .ok (.invokestatic 75, 3) := by decide +kernel
theorem dX3_sorterOf_8 : decode cX3_sorterOf 8 = .ok (.ireturn, 1) := by decide +kernel
theorem BX3_sorterOf_0 {d bc bs : Nat} {h : aH} {n : Nat} {Q : aQ} {ar0 : Nat} {x1 : Int} {f1 : List aV} {t3 : Option Nat} (h2 : h ar0 = cO 3 f1) (g4 : f1[2]? = some (vR t3)) (k : Rn d 0 0 mX12_cell 0 [some (vR t3), some (vI x1)] [] h n (fun v h1 n1 => Rn (d + 1) bc bs mX3_sorterOf 8 [some (vR (some ar0)), some (vI x1)] (v.toList ++ []) h1 n1 Q)) : Rn (d + 1) (bc) (bs) mX3_sorterOf 0 [some (vR (some ar0)), some (vI x1)] [] h n Q := by
  refine Rn_aload_n dX3_sorterOf_0 rfl rfl rfl ?_
  refine Rn_getfield (ci := 3) (k := 2) dX3_sorterOf_1 rfl in_3 (Nat.le_of_ble_eq_true rfl) wd_440 rfl h2 g4 ?_
  refine Rn_iload_n dX3_sorterOf_4 rfl rfl ?_
  exact Rn_callS (avs := [vR t3, vI x1]) (st := []) (bc1 := 0) (bs1 := 0) (bc2 := bc) (bs2 := bs) fx_X12_cell dX3_sorterOf_5 (Or.inr ⟨"BottledPost", List.mem_of_getElem? (i := 27) rfl⟩) wd_967 rfl (Nat.le_of_ble_eq_true rfl) (Nat.le_of_ble_eq_true rfl) (by omega) (by omega) (ls1 := [some (vR t3), some (vI x1)]) rfl k
theorem BX3_sorterOf_8 {d bc bs : Nat} {h : aH} {n : Nat} {Q : aQ} {r0 : Option Nat} {x1 s0 : Int} (k : Q (some (vI s0)) h n) : Rn d (bc) (bs) mX3_sorterOf 8 [some (vR r0), some (vI x1)] [vI s0] h n Q := by
  exact Rn_ireturn rfl dX3_sorterOf_8 k
theorem dX3_share_0 : decode cX3_share 0 = .ok (.iload_n 2, 1) := by decide +kernel
theorem dX3_share_1 : decode cX3_share 1 = .ok (.iload_n 3, 1) := by decide +kernel
theorem dX3_share_2 : decode cX3_share 2 = .ok (.if_icmp .ge 9, 3) := by decide +kernel
theorem dX3_share_5 : decode cX3_share 5 = .ok (.iload_n 2, 1) := by decide +kernel
theorem dX3_share_6 : decode cX3_share 6 = .ok (.bipush 8, 2) := by decide +kernel
theorem dX3_share_8 : decode cX3_share 8 = .ok (.if_icmp .lt 5, 3) := by decide +kernel
theorem dX3_share_11 : decode cX3_share 11 = .ok (.iconst 1, 1) := by decide +kernel
theorem dX3_share_12 : decode cX3_share 12 = .ok (.ireturn, 1) := by decide +kernel
theorem dX3_share_13 : decode cX3_share 13 = .ok (.iconst 0, 1) := by decide +kernel
theorem dX3_share_14 : decode cX3_share 14 = .ok (.istore 5, 2) := by decide +kernel
theorem dX3_share_16 : decode cX3_share 16 = .ok (.iload 5, 2) := by decide +kernel
theorem dX3_share_18 : decode cX3_share 18 = .ok (.iload 4, 2) := by decide +kernel
theorem dX3_share_20 : decode cX3_share 20 = .ok (.if_icmp .ge 52, 3) := by decide +kernel
theorem dX3_share_23 : decode cX3_share 23 = .ok (.iload 5, 2) := by decide +kernel
theorem dX3_share_25 : decode cX3_share 25 = .ok (.iload_n 2, 1) := by decide +kernel
theorem dX3_share_26 : decode cX3_share 26 = .ok (.if_icmp .gt 46, 3) := by decide +kernel
theorem dX3_share_29 : decode cX3_share 29 = .ok (.aload_n 0, 1) := by decide +kernel
theorem dX3_share_30 : decode cX3_share 30 = .ok (.aload_n 1, 1) := by decide +kernel
theorem dX3_share_31 : decode cX3_share 31 = .ok (.iload_n 2, 1) := by decide +kernel
theorem dX3_share_32 : decode cX3_share 32 = .ok (.iload 5, 2) := by decide +kernel
theorem dX3_share_34 : decode cX3_share 34 = .ok (.invokestatic 99, 3) := by decide +kernel
theorem dX3_share_37 : decode cX3_share 37 = .ok (.ifCond .ne 6, 3) := by decide +kernel
theorem dX3_share_40 : decode cX3_share 40 = .ok (.goto 26, 3) := by decide +kernel
theorem dX3_share_43 : decode cX3_share 43 = .ok (.aload_n 1, 1) := by decide +kernel
theorem dX3_share_44 : decode cX3_share 44 = .ok (.iload_n 2, 1) := by decide +kernel
theorem dX3_share_45 : decode cX3_share 45 = .ok (.iload 5, 2) := by decide +kernel
theorem dX3_share_47 : decode cX3_share 47 = .ok (.invokestatic 91, 3) := by decide +kernel
theorem dX3_share_50 : decode cX3_share 50 = .ok (.aload_n 0, 1) := by decide +kernel
theorem dX3_share_51 : decode cX3_share 51 = .ok (.aload_n 1, 1) := by decide +kernel
theorem dX3_share_52 : decode cX3_share 52 = .ok (.iload_n 2, 1) := by decide +kernel
theorem dX3_share_53 : decode cX3_share 53 = .ok (.iconst 1, 1) := by decide +kernel
theorem dX3_share_54 : decode cX3_share 54 = .ok (.iadd, 1) := by decide +kernel
theorem dX3_share_55 : decode cX3_share 55 = .ok (.iload_n 3, 1) := by decide +kernel
theorem dX3_share_56 : decode cX3_share 56 = .ok (.iload 4, 2) := by decide +kernel
theorem dX3_share_58 : decode cX3_share 58 = .ok (.invokestatic 95, 3) := by decide +kernel
theorem dX3_share_61 : decode cX3_share 61 = .ok (.ifCond .eq 5, 3) := by decide +kernel
theorem dX3_share_64 : decode cX3_share 64 = .ok (.iconst 1, 1) := by decide +kernel
theorem dX3_share_65 : decode cX3_share 65 = .ok (.ireturn, 1) := by decide +kernel
theorem dX3_share_66 : decode cX3_share 66 = .ok (.iinc 5 1, 3) := by decide +kernel
theorem dX3_share_69 : decode cX3_share 69 = .ok (.goto (-53), 3) := by decide +kernel
theorem dX3_share_72 : decode cX3_share 72 = .ok (.iconst 0, 1) := by decide +kernel
theorem dX3_share_73 : decode cX3_share 73 = .ok (.ireturn, 1) := by decide +kernel
theorem BX3_share_0 {d bc bs : Nat} {h : aH} {n : Nat} {Q : aQ} {r0 r1 : Option Nat} {x2 x3 x4 : Int} {l5 : Option aV} (kt : x3 ≤ x2 → Rn d bc bs mX3_share 11 [some (vR r0), some (vR r1), some (vI x2), some (vI x3), some (vI x4), l5] [] h n Q) (kf : x2 < x3 → Rn d bc bs mX3_share 5 [some (vR r0), some (vR r1), some (vI x2), some (vI x3), some (vI x4), l5] [] h n Q) : Rn d (bc) (bs) mX3_share 0 [some (vR r0), some (vR r1), some (vI x2), some (vI x3), some (vI x4), l5] [] h n Q := by
  refine Rn_iload_n dX3_share_0 rfl rfl ?_
  refine Rn_iload_n dX3_share_1 rfl rfl ?_
  refine Rn_icmpge (tgt := 11) dX3_share_2 rfl ?_ ?_
  · exact kt
  · exact kf
theorem BX3_share_5 {d bc bs : Nat} {h : aH} {n : Nat} {Q : aQ} {r0 r1 : Option Nat} {x2 x3 x4 : Int} {l5 : Option aV} (kt : x2 < 8 → Rn d bc bs mX3_share 13 [some (vR r0), some (vR r1), some (vI x2), some (vI x3), some (vI x4), l5] [] h n Q) (kf : 8 ≤ x2 → Rn d bc bs mX3_share 11 [some (vR r0), some (vR r1), some (vI x2), some (vI x3), some (vI x4), l5] [] h n Q) : Rn d (bc) (bs) mX3_share 5 [some (vR r0), some (vR r1), some (vI x2), some (vI x3), some (vI x4), l5] [] h n Q := by
  refine Rn_iload_n dX3_share_5 rfl rfl ?_
  refine Rn_bipush dX3_share_6 rfl ?_
  refine Rn_icmplt (tgt := 13) dX3_share_8 rfl ?_ ?_
  · exact kt
  · exact kf
theorem BX3_share_11 {d bc bs : Nat} {h : aH} {n : Nat} {Q : aQ} {r0 r1 : Option Nat} {x2 x3 x4 : Int} {l5 : Option aV} (k : Q (some (vI 1)) h n) : Rn d (bc) (bs) mX3_share 11 [some (vR r0), some (vR r1), some (vI x2), some (vI x3), some (vI x4), l5] [] h n Q := by
  refine Rn_iconst dX3_share_11 rfl ?_
  exact Rn_zreturn rfl dX3_share_12 (by decide) k
theorem BX3_share_13 {d bc bs : Nat} {h : aH} {n : Nat} {Q : aQ} {r0 r1 : Option Nat} {x2 x3 x4 : Int} {l5 : Option aV} (k : Rn d bc bs mX3_share 16 [some (vR r0), some (vR r1), some (vI x2), some (vI x3), some (vI x4), some (vI 0)] [] h n Q) : Rn d (bc) (bs) mX3_share 13 [some (vR r0), some (vR r1), some (vI x2), some (vI x3), some (vI x4), l5] [] h n Q := by
  refine Rn_iconst dX3_share_13 rfl ?_
  refine Rn_istore dX3_share_14 (Nat.le_of_ble_eq_true rfl) rfl rfl ?_
  exact k
theorem BX3_share_16 {d bc bs : Nat} {h : aH} {n : Nat} {Q : aQ} {r0 r1 : Option Nat} {x2 x3 x4 x5 : Int} (kt : x4 ≤ x5 → Rn d bc bs mX3_share 72 [some (vR r0), some (vR r1), some (vI x2), some (vI x3), some (vI x4), some (vI x5)] [] h n Q) (kf : x5 < x4 → Rn d bc bs mX3_share 23 [some (vR r0), some (vR r1), some (vI x2), some (vI x3), some (vI x4), some (vI x5)] [] h n Q) : Rn d (bc) (bs) mX3_share 16 [some (vR r0), some (vR r1), some (vI x2), some (vI x3), some (vI x4), some (vI x5)] [] h n Q := by
  refine Rn_iload dX3_share_16 rfl ?_
  refine Rn_iload dX3_share_18 rfl ?_
  refine Rn_icmpge (tgt := 72) dX3_share_20 rfl ?_ ?_
  · exact kt
  · exact kf
theorem BX3_share_23 {d bc bs : Nat} {h : aH} {n : Nat} {Q : aQ} {r0 r1 : Option Nat} {x2 x3 x4 x5 : Int} (kt : x2 < x5 → Rn d bc bs mX3_share 72 [some (vR r0), some (vR r1), some (vI x2), some (vI x3), some (vI x4), some (vI x5)] [] h n Q) (kf : x5 ≤ x2 → Rn d bc bs mX3_share 29 [some (vR r0), some (vR r1), some (vI x2), some (vI x3), some (vI x4), some (vI x5)] [] h n Q) : Rn d (bc) (bs) mX3_share 23 [some (vR r0), some (vR r1), some (vI x2), some (vI x3), some (vI x4), some (vI x5)] [] h n Q := by
  refine Rn_iload dX3_share_23 rfl ?_
  refine Rn_iload_n dX3_share_25 rfl rfl ?_
  refine Rn_icmpgt (tgt := 72) dX3_share_26 rfl ?_ ?_
  · exact kt
  · exact kf
theorem BX3_share_29 {d bc bs : Nat} {h : aH} {n : Nat} {Q : aQ} {r0 r1 : Option Nat} {x2 x3 x4 x5 : Int} (k : Rn d 0 0 mX3_mayRead 0 [some (vR r0), some (vR r1), some (vI x2), some (vI x5), none] [] h n (fun v h1 n1 => Rn (d + 1) bc bs mX3_share 37 [some (vR r0), some (vR r1), some (vI x2), some (vI x3), some (vI x4), some (vI x5)] (v.toList ++ []) h1 n1 Q)) : Rn (d + 1) (bc) (bs) mX3_share 29 [some (vR r0), some (vR r1), some (vI x2), some (vI x3), some (vI x4), some (vI x5)] [] h n Q := by
  refine Rn_aload_n dX3_share_29 rfl rfl rfl ?_
  refine Rn_aload_n dX3_share_30 rfl rfl rfl ?_
  refine Rn_iload_n dX3_share_31 rfl rfl ?_
  refine Rn_iload dX3_share_32 rfl ?_
  exact Rn_callS (avs := [vR r0, vR r1, vI x2, vI x5]) (st := []) (bc1 := 0) (bs1 := 0) (bc2 := bc) (bs2 := bs) fx_X3_mayRead dX3_share_34 (Or.inl wd_1251) wd_1252 rfl (Nat.le_of_ble_eq_true rfl) (Nat.le_of_ble_eq_true rfl) (by omega) (by omega) (ls1 := [some (vR r0), some (vR r1), some (vI x2), some (vI x5), none]) rfl k
theorem BX3_share_37 {d bc bs : Nat} {h : aH} {n : Nat} {Q : aQ} {r0 r1 : Option Nat} {x2 x3 x4 x5 s0 : Int} (kt : s0 ≠ 0 → Rn d bc bs mX3_share 43 [some (vR r0), some (vR r1), some (vI x2), some (vI x3), some (vI x4), some (vI x5)] [] h n Q) (kf : s0 = 0 → Rn d bc bs mX3_share 40 [some (vR r0), some (vR r1), some (vI x2), some (vI x3), some (vI x4), some (vI x5)] [] h n Q) : Rn d (bc) (bs) mX3_share 37 [some (vR r0), some (vR r1), some (vI x2), some (vI x3), some (vI x4), some (vI x5)] [vI s0] h n Q := by
  refine Rn_ifne (tgt := 43) dX3_share_37 rfl ?_ ?_
  · exact kt
  · exact kf
theorem BX3_share_40 {d bc bs : Nat} {h : aH} {n : Nat} {Q : aQ} {r0 r1 : Option Nat} {x2 x3 x4 x5 : Int} (b1 : -2147483648 ≤ x5 + 1 ∧ x5 + 1 < 2147483648) (k : Rn d bc bs mX3_share 16 [some (vR r0), some (vR r1), some (vI x2), some (vI x3), some (vI x4), some (vI (x5 + 1))] [] h n Q) : Rn d (bc) (bs) mX3_share 40 [some (vR r0), some (vR r1), some (vI x2), some (vI x3), some (vI x4), some (vI x5)] [] h n Q := by
  refine Rn_goto (tgt := 66) dX3_share_40 rfl ?_
  refine Rn_iinc dX3_share_66 rfl (Nat.le_of_ble_eq_true rfl) rfl rfl rfl ?_
  rw [w32_id b1.1 b1.2]
  refine Rn_goto (tgt := 16) dX3_share_69 rfl ?_
  exact k
theorem BX3_share_43 {d bc bs : Nat} {h : aH} {n : Nat} {Q : aQ} {r0 r1 : Option Nat} {x2 x3 x4 x5 : Int} (k : Rn d 0 0 mX12_setCell 0 [some (vR r1), some (vI x2), some (vI x5)] [] h n (fun v h1 n1 => Rn (d + 1) bc bs mX3_share 50 [some (vR r0), some (vR r1), some (vI x2), some (vI x3), some (vI x4), some (vI x5)] (v.toList ++ []) h1 n1 Q)) : Rn (d + 1) (bc) (bs) mX3_share 43 [some (vR r0), some (vR r1), some (vI x2), some (vI x3), some (vI x4), some (vI x5)] [] h n Q := by
  refine Rn_aload_n dX3_share_43 rfl rfl rfl ?_
  refine Rn_iload_n dX3_share_44 rfl rfl ?_
  refine Rn_iload dX3_share_45 rfl ?_
  exact Rn_callS (avs := [vR r1, vI x2, vI x5]) (st := []) (bc1 := 0) (bs1 := 0) (bc2 := bc) (bs2 := bs) fx_X12_setCell dX3_share_47 (Or.inr ⟨"BottledPost", List.mem_of_getElem? (i := 28) rfl⟩) wd_164 rfl (Nat.le_of_ble_eq_true rfl) (Nat.le_of_ble_eq_true rfl) (by omega) (by omega) (ls1 := [some (vR r1), some (vI x2), some (vI x5)]) rfl k
theorem BX3_share_50 {d bc bs : Nat} {h : aH} {n : Nat} {Q : aQ} {r0 r1 : Option Nat} {x2 x3 x4 x5 : Int} (b1 : -2147483648 ≤ x2 + 1 ∧ x2 + 1 < 2147483648) (k : Rn d 0 0 mX3_share 0 [some (vR r0), some (vR r1), some (vI (x2 + 1)), some (vI x3), some (vI x4), none] [] h n (fun v h1 n1 => Rn (d + 1) bc bs mX3_share 61 [some (vR r0), some (vR r1), some (vI x2), some (vI x3), some (vI x4), some (vI x5)] (v.toList ++ []) h1 n1 Q)) : Rn (d + 1) (bc) (bs) mX3_share 50 [some (vR r0), some (vR r1), some (vI x2), some (vI x3), some (vI x4), some (vI x5)] [] h n Q := by
  refine Rn_aload_n dX3_share_50 rfl rfl rfl ?_
  refine Rn_aload_n dX3_share_51 rfl rfl rfl ?_
  refine Rn_iload_n dX3_share_52 rfl rfl ?_
  refine Rn_iconst dX3_share_53 rfl ?_
  refine Rn_iadd dX3_share_54 ?_
  rw [w32_id b1.1 b1.2]
  refine Rn_iload_n dX3_share_55 rfl rfl ?_
  refine Rn_iload dX3_share_56 rfl ?_
  exact Rn_callS (avs := [vR r0, vR r1, vI (x2 + 1), vI x3, vI x4]) (st := []) (bc1 := 0) (bs1 := 0) (bc2 := bc) (bs2 := bs) fx_X3_share dX3_share_58 (Or.inl wd_1248) wd_1249 rfl (Nat.le_of_ble_eq_true rfl) (Nat.le_of_ble_eq_true rfl) (by omega) (by omega) (ls1 := [some (vR r0), some (vR r1), some (vI (x2 + 1)), some (vI x3), some (vI x4), none]) rfl k
theorem BX3_share_61 {d bc bs : Nat} {h : aH} {n : Nat} {Q : aQ} {r0 r1 : Option Nat} {x2 x3 x4 x5 s0 : Int} (kt : s0 = 0 → Rn d bc bs mX3_share 66 [some (vR r0), some (vR r1), some (vI x2), some (vI x3), some (vI x4), some (vI x5)] [] h n Q) (kf : s0 ≠ 0 → Rn d bc bs mX3_share 64 [some (vR r0), some (vR r1), some (vI x2), some (vI x3), some (vI x4), some (vI x5)] [] h n Q) : Rn d (bc) (bs) mX3_share 61 [some (vR r0), some (vR r1), some (vI x2), some (vI x3), some (vI x4), some (vI x5)] [vI s0] h n Q := by
  refine Rn_ifeq (tgt := 66) dX3_share_61 rfl ?_ ?_
  · exact kt
  · exact kf
theorem BX3_share_64 {d bc bs : Nat} {h : aH} {n : Nat} {Q : aQ} {r0 r1 : Option Nat} {x2 x3 x4 x5 : Int} (k : Q (some (vI 1)) h n) : Rn d (bc) (bs) mX3_share 64 [some (vR r0), some (vR r1), some (vI x2), some (vI x3), some (vI x4), some (vI x5)] [] h n Q := by
  refine Rn_iconst dX3_share_64 rfl ?_
  exact Rn_zreturn rfl dX3_share_65 (by decide) k
theorem BX3_share_66 {d bc bs : Nat} {h : aH} {n : Nat} {Q : aQ} {r0 r1 : Option Nat} {x2 x3 x4 x5 : Int} (b1 : -2147483648 ≤ x5 + 1 ∧ x5 + 1 < 2147483648) (k : Rn d bc bs mX3_share 16 [some (vR r0), some (vR r1), some (vI x2), some (vI x3), some (vI x4), some (vI (x5 + 1))] [] h n Q) : Rn d (bc) (bs) mX3_share 66 [some (vR r0), some (vR r1), some (vI x2), some (vI x3), some (vI x4), some (vI x5)] [] h n Q := by
  refine Rn_iinc dX3_share_66 rfl (Nat.le_of_ble_eq_true rfl) rfl rfl rfl ?_
  rw [w32_id b1.1 b1.2]
  refine Rn_goto (tgt := 16) dX3_share_69 rfl ?_
  exact k
theorem BX3_share_72 {d bc bs : Nat} {h : aH} {n : Nat} {Q : aQ} {r0 r1 : Option Nat} {x2 x3 x4 x5 : Int} (k : Q (some (vI 0)) h n) : Rn d (bc) (bs) mX3_share 72 [some (vR r0), some (vR r1), some (vI x2), some (vI x3), some (vI x4), some (vI x5)] [] h n Q := by
  refine Rn_iconst dX3_share_72 rfl ?_
  exact Rn_zreturn rfl dX3_share_73 (by decide) k
theorem dX3_mayRead_0 : decode cX3_mayRead 0 = .ok (.iconst 0, 1) := by decide +kernel
theorem dX3_mayRead_1 : decode cX3_mayRead 1 = .ok (.istore 4, 2) := by decide +kernel
theorem dX3_mayRead_3 : decode cX3_mayRead 3 = .ok (.iload 4, 2) := by decide +kernel
theorem dX3_mayRead_5 : decode cX3_mayRead 5 = .ok (.iload_n 2, 1) := by decide +kernel
theorem dX3_mayRead_6 : decode cX3_mayRead 6 = .ok (.if_icmp .ge 34, 3) := by decide +kernel
theorem dX3_mayRead_9 : decode cX3_mayRead 9 = .ok (.aload_n 0, 1) := by decide +kernel
theorem dX3_mayRead_10 : decode cX3_mayRead 10 = .ok (.iload_n 2, 1) := by decide +kernel
theorem dX3_mayRead_11 : decode cX3_mayRead 11 = .ok (.invokevirtual 103, 3) := by decide +kernel
theorem dX3_mayRead_14 : decode cX3_mayRead 14 = .ok (.iconst 1, 1) := by decide +kernel
theorem dX3_mayRead_15 : decode cX3_mayRead 15 = .ok (.iload 4, 2) := by decide +kernel
theorem dX3_mayRead_17 : decode cX3_mayRead 17 = .ok (.ishl, 1) := by decide +kernel
theorem dX3_mayRead_18 : decode cX3_mayRead 18 = .ok (.iand, 1) := by decide +kernel
theorem dX3_mayRead_19 : decode cX3_mayRead 19 = .ok (.ifCond .eq 15, 3) := by decide +kernel
theorem dX3_mayRead_22 : decode cX3_mayRead 22 = .ok (.aload_n 1, 1) := by decide +kernel
theorem dX3_mayRead_23 : decode cX3_mayRead 23 = .ok (.iload 4, 2) := by decide +kernel
theorem dX3_mayRead_25 : decode cX3_mayRead 25 = .ok (.invokestatic 75, 3) := by decide +kernel
theorem dX3_mayRead_28 : decode cX3_mayRead 28 = .ok (.iload_n 3, 1) := by decide +kernel
theorem dX3_mayRead_29 : decode cX3_mayRead 29 = .ok (.if_icmp .ne 5, 3) := by decide +kernel
theorem dX3_mayRead_32 : decode cX3_mayRead 32 = .ok (.iconst 0, 1) := by decide +kernel
theorem dX3_mayRead_33 : decode cX3_mayRead 33 = .ok (.ireturn, 1) := by decide +kernel
theorem dX3_mayRead_34 : decode cX3_mayRead 34 = .ok (.iinc 4 1, 3) := by decide +kernel
theorem dX3_mayRead_37 : decode cX3_mayRead 37 = .ok (.goto (-34), 3) := by decide +kernel
theorem dX3_mayRead_40 : decode cX3_mayRead 40 = .ok (.iconst 1, 1) := by decide +kernel
theorem dX3_mayRead_41 : decode cX3_mayRead 41 = .ok (.ireturn, 1) := by decide +kernel
theorem BX3_mayRead_0 {d bc bs : Nat} {h : aH} {n : Nat} {Q : aQ} {r0 r1 : Option Nat} {x2 x3 : Int} {l4 : Option aV} (k : Rn d bc bs mX3_mayRead 3 [some (vR r0), some (vR r1), some (vI x2), some (vI x3), some (vI 0)] [] h n Q) : Rn d (bc) (bs) mX3_mayRead 0 [some (vR r0), some (vR r1), some (vI x2), some (vI x3), l4] [] h n Q := by
  refine Rn_iconst dX3_mayRead_0 rfl ?_
  refine Rn_istore dX3_mayRead_1 (Nat.le_of_ble_eq_true rfl) rfl rfl ?_
  exact k
theorem BX3_mayRead_3 {d bc bs : Nat} {h : aH} {n : Nat} {Q : aQ} {r0 r1 : Option Nat} {x2 x3 x4 : Int} (kt : x2 ≤ x4 → Rn d bc bs mX3_mayRead 40 [some (vR r0), some (vR r1), some (vI x2), some (vI x3), some (vI x4)] [] h n Q) (kf : x4 < x2 → Rn d bc bs mX3_mayRead 9 [some (vR r0), some (vR r1), some (vI x2), some (vI x3), some (vI x4)] [] h n Q) : Rn d (bc) (bs) mX3_mayRead 3 [some (vR r0), some (vR r1), some (vI x2), some (vI x3), some (vI x4)] [] h n Q := by
  refine Rn_iload dX3_mayRead_3 rfl ?_
  refine Rn_iload_n dX3_mayRead_5 rfl rfl ?_
  refine Rn_icmpge (tgt := 40) dX3_mayRead_6 rfl ?_ ?_
  · exact kt
  · exact kf
theorem BX3_mayRead_9 {d bc bs : Nat} {h : aH} {n : Nat} {Q : aQ} {ar0 : Nat} {r1 : Option Nat} {x2 x3 x4 : Int} {f1 : List aV} (h2 : h ar0 = cO 5 f1) (k : Rn d 0 0 mX5_unlikeOf 0 [some (vR (some ar0)), some (vI x2)] [] h n (fun v h1 n1 => Rn (d + 1) bc bs mX3_mayRead 14 [some (vR (some ar0)), some (vR r1), some (vI x2), some (vI x3), some (vI x4)] (v.toList ++ []) h1 n1 Q)) : Rn (d + 1) (bc) (bs) mX3_mayRead 9 [some (vR (some ar0)), some (vR r1), some (vI x2), some (vI x3), some (vI x4)] [] h n Q := by
  refine Rn_aload_n dX3_mayRead_9 rfl rfl rfl ?_
  refine Rn_iload_n dX3_mayRead_10 rfl rfl ?_
  exact Rn_callV (ci := 5) (avs := [vI x2]) (st := []) (bc1 := 0) (bs1 := 0) (bc2 := bc) (bs2 := bs) fx_X5_unlikeOf dX3_mayRead_11 wd_1254 wd_1237 wd_1238 rfl h2 rfl (Nat.le_of_ble_eq_true rfl) (Nat.le_of_ble_eq_true rfl) (by omega) (by omega) (ls1 := [some (vR (some ar0)), some (vI x2)]) rfl k
theorem BX3_mayRead_14 {d bc bs : Nat} {h : aH} {n : Nat} {Q : aQ} {r0 r1 : Option Nat} {x2 x3 x4 s0 : Int} (kt : (and32 s0 (shl32 1 x4)) = 0 → Rn d bc bs mX3_mayRead 34 [some (vR r0), some (vR r1), some (vI x2), some (vI x3), some (vI x4)] [] h n Q) (kf : (and32 s0 (shl32 1 x4)) ≠ 0 → Rn d bc bs mX3_mayRead 22 [some (vR r0), some (vR r1), some (vI x2), some (vI x3), some (vI x4)] [] h n Q) : Rn d (bc) (bs) mX3_mayRead 14 [some (vR r0), some (vR r1), some (vI x2), some (vI x3), some (vI x4)] [vI s0] h n Q := by
  refine Rn_iconst dX3_mayRead_14 rfl ?_
  refine Rn_iload dX3_mayRead_15 rfl ?_
  refine Rn_ishl dX3_mayRead_17 ?_
  refine Rn_iand dX3_mayRead_18 ?_
  refine Rn_ifeq (tgt := 34) dX3_mayRead_19 rfl ?_ ?_
  · exact kt
  · exact kf
theorem BX3_mayRead_22 {d bc bs : Nat} {h : aH} {n : Nat} {Q : aQ} {r0 r1 : Option Nat} {x2 x3 x4 : Int} (k : Rn d 0 0 mX12_cell 0 [some (vR r1), some (vI x4)] [] h n (fun v h1 n1 => Rn (d + 1) bc bs mX3_mayRead 28 [some (vR r0), some (vR r1), some (vI x2), some (vI x3), some (vI x4)] (v.toList ++ []) h1 n1 Q)) : Rn (d + 1) (bc) (bs) mX3_mayRead 22 [some (vR r0), some (vR r1), some (vI x2), some (vI x3), some (vI x4)] [] h n Q := by
  refine Rn_aload_n dX3_mayRead_22 rfl rfl rfl ?_
  refine Rn_iload dX3_mayRead_23 rfl ?_
  exact Rn_callS (avs := [vR r1, vI x4]) (st := []) (bc1 := 0) (bs1 := 0) (bc2 := bc) (bs2 := bs) fx_X12_cell dX3_mayRead_25 (Or.inr ⟨"BottledPost", List.mem_of_getElem? (i := 27) rfl⟩) wd_967 rfl (Nat.le_of_ble_eq_true rfl) (Nat.le_of_ble_eq_true rfl) (by omega) (by omega) (ls1 := [some (vR r1), some (vI x4)]) rfl k
theorem BX3_mayRead_28 {d bc bs : Nat} {h : aH} {n : Nat} {Q : aQ} {r0 r1 : Option Nat} {x2 x3 x4 s0 : Int} (kt : s0 ≠ x3 → Rn d bc bs mX3_mayRead 34 [some (vR r0), some (vR r1), some (vI x2), some (vI x3), some (vI x4)] [] h n Q) (kf : s0 = x3 → Rn d bc bs mX3_mayRead 32 [some (vR r0), some (vR r1), some (vI x2), some (vI x3), some (vI x4)] [] h n Q) : Rn d (bc) (bs) mX3_mayRead 28 [some (vR r0), some (vR r1), some (vI x2), some (vI x3), some (vI x4)] [vI s0] h n Q := by
  refine Rn_iload_n dX3_mayRead_28 rfl rfl ?_
  refine Rn_icmpne (tgt := 34) dX3_mayRead_29 rfl ?_ ?_
  · exact kt
  · exact kf
theorem BX3_mayRead_32 {d bc bs : Nat} {h : aH} {n : Nat} {Q : aQ} {r0 r1 : Option Nat} {x2 x3 x4 : Int} (k : Q (some (vI 0)) h n) : Rn d (bc) (bs) mX3_mayRead 32 [some (vR r0), some (vR r1), some (vI x2), some (vI x3), some (vI x4)] [] h n Q := by
  refine Rn_iconst dX3_mayRead_32 rfl ?_
  exact Rn_zreturn rfl dX3_mayRead_33 (by decide) k
theorem BX3_mayRead_34 {d bc bs : Nat} {h : aH} {n : Nat} {Q : aQ} {r0 r1 : Option Nat} {x2 x3 x4 : Int} (b1 : -2147483648 ≤ x4 + 1 ∧ x4 + 1 < 2147483648) (k : Rn d bc bs mX3_mayRead 3 [some (vR r0), some (vR r1), some (vI x2), some (vI x3), some (vI (x4 + 1))] [] h n Q) : Rn d (bc) (bs) mX3_mayRead 34 [some (vR r0), some (vR r1), some (vI x2), some (vI x3), some (vI x4)] [] h n Q := by
  refine Rn_iinc dX3_mayRead_34 rfl (Nat.le_of_ble_eq_true rfl) rfl rfl rfl ?_
  rw [w32_id b1.1 b1.2]
  refine Rn_goto (tgt := 3) dX3_mayRead_37 rfl ?_
  exact k
theorem BX3_mayRead_40 {d bc bs : Nat} {h : aH} {n : Nat} {Q : aQ} {r0 r1 : Option Nat} {x2 x3 x4 : Int} (k : Q (some (vI 1)) h n) : Rn d (bc) (bs) mX3_mayRead 40 [some (vR r0), some (vR r1), some (vI x2), some (vI x3), some (vI x4)] [] h n Q := by
  refine Rn_iconst dX3_mayRead_40 rfl ?_
  exact Rn_zreturn rfl dX3_mayRead_41 (by decide) k
theorem dX3_countOrders_0 : decode cX3_countOrders 0 = .ok (.iconst 1, 1) := by decide +kernel
theorem dX3_countOrders_1 : decode cX3_countOrders 1 = .ok (.iload_n 2, 1) := by decide +kernel
theorem dX3_countOrders_2 : decode cX3_countOrders 2 = .ok (.ishl, 1) := by decide +kernel
theorem dX3_countOrders_3 : decode cX3_countOrders 3 = .ok (.iconst 1, 1) := by decide +kernel
theorem dX3_countOrders_4 : decode cX3_countOrders 4 = .ok (.isub, 1) := by decide +kernel
theorem dX3_countOrders_5 : decode cX3_countOrders 5 = .ok (.istore 5, 2) := by decide +kernel
theorem dX3_countOrders_7 : decode cX3_countOrders 7 = .ok (.iconst 0, 1) := by decide +kernel
theorem dX3_countOrders_8 : decode cX3_countOrders 8 = .ok (.istore 6, 2) := by decide +kernel
theorem dX3_countOrders_10 : decode cX3_countOrders 10 = .ok (.iload 6, 2) := by decide +kernel
theorem dX3_countOrders_12 : decode cX3_countOrders 12 = .ok (.iload 5, 2) := by decide +kernel
theorem dX3_countOrders_14 : decode cX3_countOrders 14 = .ok (.if_icmp .gt 131, 3) := by decide +kernel
theorem dX3_countOrders_17 : decode cX3_countOrders 17 = .ok (.iload 6, 2) := by decide +kernel
theorem dX3_countOrders_19 : decode cX3_countOrders 19 = .ok (.aload_n 0, 1) := by decide +kernel
theorem dX3_countOrders_20 : decode cX3_countOrders 20 = .ok (.getfield 22, 3) := by decide +kernel
theorem dX3_countOrders_23 : decode cX3_countOrders 23 = .ok (.arraylength, 1) := by decide +kernel
theorem dX3_countOrders_24 : decode cX3_countOrders 24 = .ok (.if_icmp .ge 121, 3) := by decide +kernel
theorem dX3_countOrders_27 : decode cX3_countOrders 27 = .ok (.aload_n 0, 1) := by decide +kernel
theorem dX3_countOrders_28 : decode cX3_countOrders 28 = .ok (.getfield 22, 3) := by decide +kernel
theorem dX3_countOrders_31 : decode cX3_countOrders 31 = .ok (.iload 6, 2) := by decide +kernel
theorem dX3_countOrders_33 : decode cX3_countOrders 33 = .ok (.iload 6, 2) := by decide +kernel
theorem dX3_countOrders_35 : decode cX3_countOrders 35 = .ok (.ifCond .ne 7, 3) := by decide +kernel
theorem dX3_countOrders_38 : decode cX3_countOrders 38 = .ok (.lconst 1, 1) := by decide +kernel
theorem dX3_countOrders_39 : decode cX3_countOrders 39 = .ok (.goto 4, 3) := by decide +kernel
theorem dX3_countOrders_42 : decode cX3_countOrders 42 = .ok (.lconst 0, 1) := by decide +kernel
theorem dX3_countOrders_43 : decode cX3_countOrders 43 = .ok (.lastore, 1) := by decide +kernel
theorem dX3_countOrders_44 : decode cX3_countOrders 44 = .ok (.iconst 0, 1) := by decide +kernel
theorem dX3_countOrders_45 : decode cX3_countOrders 45 = .ok (.istore 7, 2) := by decide +kernel
theorem dX3_countOrders_47 : decode cX3_countOrders 47 = .ok (.iload 7, 2) := by decide +kernel
theorem dX3_countOrders_49 : decode cX3_countOrders 49 = .ok (.iload_n 2, 1) := by decide +kernel
theorem dX3_countOrders_50 : decode cX3_countOrders 50 = .ok (.if_icmp .ge 89, 3) := by decide +kernel
theorem dX3_countOrders_53 : decode cX3_countOrders 53 = .ok (.iload 6, 2) := by decide +kernel
theorem dX3_countOrders_55 : decode cX3_countOrders 55 = .ok (.iconst 1, 1) := by decide +kernel
theorem dX3_countOrders_56 : decode cX3_countOrders 56 = .ok (.iload 7, 2) := by decide +kernel
theorem dX3_countOrders_58 : decode cX3_countOrders 58 = .ok (.ishl, 1) := by decide +kernel
theorem dX3_countOrders_59 : decode cX3_countOrders 59 = .ok (.iconst (-1), 1) := by decide +kernel
theorem dX3_countOrders_60 : decode cX3_countOrders 60 = .ok (.ixor, 1) := by decide +kernel
theorem dX3_countOrders_61 : decode cX3_countOrders 61 = .ok (.iand, 1) := by decide +kernel
theorem dX3_countOrders_62 : decode cX3_countOrders 62 = .ok (.istore 8, 2) := by decide +kernel
theorem dX3_countOrders_64 : decode cX3_countOrders 64 = .ok (.aload_n 1, 1) := by decide +kernel
theorem dX3_countOrders_65 : decode cX3_countOrders 65 = .ok (.iload 7, 2) := by decide +kernel
theorem dX3_countOrders_67 : decode cX3_countOrders 67 = .ok (.invokevirtual 106, 3) := by decide +kernel
theorem dX3_countOrders_70 : decode cX3_countOrders 70 = .ok (.iload 5, 2) := by decide +kernel
theorem dX3_countOrders_72 : decode cX3_countOrders 72 = .ok (.iand, 1) := by decide +kernel
theorem dX3_countOrders_73 : decode cX3_countOrders 73 = .ok (.istore 9, 2) := by decide +kernel
theorem dX3_countOrders_75 : decode cX3_countOrders 75 = .ok (.iload 7, 2) := by decide +kernel
theorem dX3_countOrders_77 : decode cX3_countOrders 77 = .ok (.iload 4, 2) := by decide +kernel
theorem dX3_countOrders_79 : decode cX3_countOrders 79 = .ok (.if_icmp .ne 15, 3) := by decide +kernel
theorem dX3_countOrders_82 : decode cX3_countOrders 82 = .ok (.iload_n 3, 1) := by decide +kernel
theorem dX3_countOrders_83 : decode cX3_countOrders 83 = .ok (.ifCond .lt 11, 3) := by decide +kernel
theorem dX3_countOrders_86 : decode cX3_countOrders 86 = .ok (.iload 9, 2) := by decide +kernel
theorem dX3_countOrders_88 : decode cX3_countOrders 88 = .ok (.iconst 1, 1) := by decide +kernel
theorem dX3_countOrders_89 : decode cX3_countOrders 89 = .ok (.iload_n 3, 1) := by decide +kernel
theorem dX3_countOrders_90 : decode cX3_countOrders 90 = .ok (.ishl, 1) := by decide +kernel
theorem dX3_countOrders_91 : decode cX3_countOrders 91 = .ok (.ior, 1) := by decide +kernel
theorem dX3_countOrders_92 : decode cX3_countOrders 92 = .ok (.istore 9, 2) := by decide +kernel
theorem dX3_countOrders_94 : decode cX3_countOrders 94 = .ok (.iload 8, 2) := by decide +kernel
theorem dX3_countOrders_96 : decode cX3_countOrders 96 = .ok (.iload 6, 2) := by decide +kernel
theorem dX3_countOrders_98 : decode cX3_countOrders 98 = .ok (.if_icmp .ge 35, 3) := by decide +kernel
theorem dX3_countOrders_101 : decode cX3_countOrders 101 = .ok (.iload 8, 2) := by decide +kernel
theorem dX3_countOrders_103 : decode cX3_countOrders 103 = .ok (.ifCond .lt 30, 3) := by decide +kernel
theorem dX3_countOrders_106 : decode cX3_countOrders 106 = .ok (.iload 9, 2) := by decide +kernel
theorem dX3_countOrders_108 : decode cX3_countOrders 108 = .ok (.iload 8, 2) := by decide +kernel
theorem dX3_countOrders_110 : decode cX3_countOrders 110 = .ok (.iconst (-1), 1) := by decide +kernel
theorem dX3_countOrders_111 : decode cX3_countOrders 111 = .ok (.ixor, 1) := by decide +kernel
theorem dX3_countOrders_112 : decode cX3_countOrders 112 = .ok (.iand, 1) := by decide +kernel
theorem dX3_countOrders_113 : decode cX3_countOrders 113 = .ok (.ifCond .ne 20, 3) := by decide +kernel
theorem dX3_countOrders_116 : decode cX3_countOrders 116 = .ok (.aload_n 0, 1) := by decide +kernel
theorem dX3_countOrders_117 : decode cX3_countOrders 117 = .ok (.getfield 22, 3) := by decide +kernel
theorem dX3_countOrders_120 : decode cX3_countOrders 120 = .ok (.iload 6, 2) := by decide +kernel
theorem dX3_countOrders_122 : decode cX3_countOrders 122 = .ok (.dup2, 1) := by decide +kernel
theorem dX3_countOrders_123 : decode cX3_countOrders 123 = .ok (.laload, 1) := by decide +kernel
theorem dX3_countOrders_124 : decode cX3_countOrders 124 = .ok (.aload_n 0, 1) := by decide +kernel
theorem dX3_countOrders_125 : decode cX3_countOrders 125 = .ok (.getfield 22, 3) := by decide +kernel
theorem dX3_countOrders_128 : decode cX3_countOrders 128 = .ok (.iload 8, 2) := by decide +kernel
theorem dX3_countOrders_130 : decode cX3_countOrders 130 = .ok (.laload, 1) := by decide +kernel
theorem dX3_countOrders_131 : decode cX3_countOrders 131 = .ok (.ladd, 1) := by decide +kernel
theorem dX3_countOrders_132 : decode cX3_countOrders 132 = .ok (.lastore, 1) := by decide +kernel
theorem dX3_countOrders_133 : decode cX3_countOrders 133 = .ok (.iinc 7 1, 3) := by decide +kernel
theorem dX3_countOrders_136 : decode cX3_countOrders 136 = .ok (.goto (-89), 3) := by decide +kernel
theorem dX3_countOrders_139 : decode cX3_countOrders 139 = .ok (.iinc 6 1, 3) := by decide +kernel
theorem dX3_countOrders_142 : decode cX3_countOrders 142 = .ok (.goto (-132), 3) := by decide +kernel
theorem dX3_countOrders_145 : decode cX3_countOrders 145 = .ok (.iload 5, 2) := by decide +kernel
theorem dX3_countOrders_147 : decode cX3_countOrders 147 = .ok (.ifCond .lt 23, 3) := by decide +kernel
theorem dX3_countOrders_150 : decode cX3_countOrders 150 = .ok (.iload 5, 2) := by decide +kernel
theorem dX3_countOrders_152 : decode cX3_countOrders 152 = .ok (.aload_n 0, 1) := by decide +kernel
theorem dX3_countOrders_153 : decode cX3_countOrders 153 = .ok (.getfield 22, 3) := by decide +kernel
theorem dX3_countOrders_156 : decode cX3_countOrders 156 = .ok (.arraylength, 1) := by decide +kernel
theorem dX3_countOrders_157 : decode cX3_countOrders 157 = .ok (.if_icmp .ge 13, 3) := by decide +kernel
theorem dX3_countOrders_160 : decode cX3_countOrders 160 = .ok (.aload_n 0, 1) := by decide +kernel
theorem dX3_countOrders_161 : decode cX3_countOrders 161 = .ok (.getfield 22, 3) := by decide +kernel
theorem dX3_countOrders_164 : decode cX3_countOrders 164 = .ok (.iload 5, 2) := by decide +kernel
theorem dX3_countOrders_166 : decode cX3_countOrders 166 = .ok (.laload, 1) := by decide +kernel
theorem dX3_countOrders_167 : decode cX3_countOrders 167 = .ok (.goto 4, 3) := by decide +kernel
theorem dX3_countOrders_170 : decode cX3_countOrders 170 = .ok (.lconst 0, 1) := by decide +kernel
theorem dX3_countOrders_171 : decode cX3_countOrders 171 = .ok (.lreturn, 1) := by decide +kernel
theorem BX3_countOrders_0 {d bc bs : Nat} {h : aH} {n : Nat} {Q : aQ} {r0 r1 : Option Nat} {x2 x3 x4 : Int} {l5 l6 l7 l8 l9 : Option aV} (b1 : -2147483648 ≤ (shl32 1 x2) - 1 ∧ (shl32 1 x2) - 1 < 2147483648) (k : Rn d bc bs mX3_countOrders 10 [some (vR r0), some (vR r1), some (vI x2), some (vI x3), some (vI x4), some (vI ((shl32 1 x2) - 1)), some (vI 0), l7, l8, l9] [] h n Q) : Rn d (bc) (bs) mX3_countOrders 0 [some (vR r0), some (vR r1), some (vI x2), some (vI x3), some (vI x4), l5, l6, l7, l8, l9] [] h n Q := by
  refine Rn_iconst dX3_countOrders_0 rfl ?_
  refine Rn_iload_n dX3_countOrders_1 rfl rfl ?_
  refine Rn_ishl dX3_countOrders_2 ?_
  refine Rn_iconst dX3_countOrders_3 rfl ?_
  refine Rn_isub dX3_countOrders_4 ?_
  rw [w32_id b1.1 b1.2]
  refine Rn_istore dX3_countOrders_5 (Nat.le_of_ble_eq_true rfl) rfl rfl ?_
  refine Rn_iconst dX3_countOrders_7 rfl ?_
  refine Rn_istore dX3_countOrders_8 (Nat.le_of_ble_eq_true rfl) rfl rfl ?_
  exact k
theorem BX3_countOrders_10 {d bc bs : Nat} {h : aH} {n : Nat} {Q : aQ} {r0 r1 : Option Nat} {x2 x3 x4 x5 x6 : Int} {l7 l8 l9 : Option aV} (kt : x5 < x6 → Rn d bc bs mX3_countOrders 145 [some (vR r0), some (vR r1), some (vI x2), some (vI x3), some (vI x4), some (vI x5), some (vI x6), l7, l8, l9] [] h n Q) (kf : x6 ≤ x5 → Rn d bc bs mX3_countOrders 17 [some (vR r0), some (vR r1), some (vI x2), some (vI x3), some (vI x4), some (vI x5), some (vI x6), l7, l8, l9] [] h n Q) : Rn d (bc) (bs) mX3_countOrders 10 [some (vR r0), some (vR r1), some (vI x2), some (vI x3), some (vI x4), some (vI x5), some (vI x6), l7, l8, l9] [] h n Q := by
  refine Rn_iload dX3_countOrders_10 rfl ?_
  refine Rn_iload dX3_countOrders_12 rfl ?_
  refine Rn_icmpgt (tgt := 145) dX3_countOrders_14 rfl ?_ ?_
  · exact kt
  · exact kf
theorem BX3_countOrders_17 {d bc bs : Nat} {h : aH} {n : Nat} {Q : aQ} {ar0 at3 : Nat} {r1 : Option Nat} {x2 x3 x4 x5 x6 : Int} {l7 l8 l9 : Option aV} {f1 : List aV} {w5 : List Int} (h2 : h ar0 = cO 3 f1) (g4 : f1[3]? = some (vR (some at3))) (h6 : h at3 = cJ w5) (y7 : w5.length < 2147483648) (z8 : at3 ≠ 0) (kt : (w5.length : Int) ≤ x6 → Rn d bc bs mX3_countOrders 145 [some (vR (some ar0)), some (vR r1), some (vI x2), some (vI x3), some (vI x4), some (vI x5), some (vI x6), l7, l8, l9] [] h n Q) (kf : x6 < (w5.length : Int) → Rn d bc bs mX3_countOrders 27 [some (vR (some ar0)), some (vR r1), some (vI x2), some (vI x3), some (vI x4), some (vI x5), some (vI x6), l7, l8, l9] [] h n Q) : Rn d (bc) (bs) mX3_countOrders 17 [some (vR (some ar0)), some (vR r1), some (vI x2), some (vI x3), some (vI x4), some (vI x5), some (vI x6), l7, l8, l9] [] h n Q := by
  refine Rn_iload dX3_countOrders_17 rfl ?_
  refine Rn_aload_n dX3_countOrders_19 rfl rfl rfl ?_
  refine Rn_getfield (ci := 3) (k := 3) dX3_countOrders_20 rfl in_3 (Nat.le_of_ble_eq_true rfl) wd_441 rfl h2 g4 ?_
  refine Rn_alenJ dX3_countOrders_23 z8 h6 y7 ?_
  refine Rn_icmpge (tgt := 145) dX3_countOrders_24 rfl ?_ ?_
  · exact kt
  · exact kf
theorem BX3_countOrders_27 {d bc bs : Nat} {h : aH} {n : Nat} {Q : aQ} {ar0 : Nat} {r1 t3 : Option Nat} {x2 x3 x4 x5 x6 : Int} {l7 l8 l9 : Option aV} {f1 : List aV} (h2 : h ar0 = cO 3 f1) (g4 : f1[3]? = some (vR t3)) (kt : x6 ≠ 0 → Rn d bc bs mX3_countOrders 42 [some (vR (some ar0)), some (vR r1), some (vI x2), some (vI x3), some (vI x4), some (vI x5), some (vI x6), l7, l8, l9] [vI x6, vR t3] h n Q) (kf : x6 = 0 → Rn d bc bs mX3_countOrders 38 [some (vR (some ar0)), some (vR r1), some (vI x2), some (vI x3), some (vI x4), some (vI x5), some (vI x6), l7, l8, l9] [vI x6, vR t3] h n Q) : Rn d (bc) (bs) mX3_countOrders 27 [some (vR (some ar0)), some (vR r1), some (vI x2), some (vI x3), some (vI x4), some (vI x5), some (vI x6), l7, l8, l9] [] h n Q := by
  refine Rn_aload_n dX3_countOrders_27 rfl rfl rfl ?_
  refine Rn_getfield (ci := 3) (k := 3) dX3_countOrders_28 rfl in_3 (Nat.le_of_ble_eq_true rfl) wd_441 rfl h2 g4 ?_
  refine Rn_iload dX3_countOrders_31 rfl ?_
  refine Rn_iload dX3_countOrders_33 rfl ?_
  refine Rn_ifne (tgt := 42) dX3_countOrders_35 rfl ?_ ?_
  · exact kt
  · exact kf
theorem BX3_countOrders_38 {d bc bs : Nat} {h : aH} {n : Nat} {Q : aQ} {r0 r1 : Option Nat} {x2 x3 x4 x5 x6 s1 : Int} {l7 l8 l9 : Option aV} {aq0 : Nat} {w1 : List Int} (h2 : h aq0 = cJ w1) (i3 : 0 ≤ s1) (j4 : s1 < w1.length) (z5 : aq0 ≠ 0) (k : Rn d bc bs mX3_countOrders 44 [some (vR r0), some (vR r1), some (vI x2), some (vI x3), some (vI x4), some (vI x5), some (vI x6), l7, l8, l9] [] (up h aq0 (cJ (w1.set (s1 : Int).toNat 1))) n Q) : Rn d (bc) (bs) mX3_countOrders 38 [some (vR r0), some (vR r1), some (vI x2), some (vI x3), some (vI x4), some (vI x5), some (vI x6), l7, l8, l9] [vI s1, vR (some aq0)] h n Q := by
  refine Rn_lconst (x := 1) dX3_countOrders_38 rfl ?_
  refine Rn_goto (tgt := 43) dX3_countOrders_39 rfl ?_
  refine Rn_lastore dX3_countOrders_43 z5 h2 i3 j4 ?_
  exact k
theorem BX3_countOrders_42 {d bc bs : Nat} {h : aH} {n : Nat} {Q : aQ} {r0 r1 : Option Nat} {x2 x3 x4 x5 x6 s1 : Int} {l7 l8 l9 : Option aV} {aq0 : Nat} {w1 : List Int} (h2 : h aq0 = cJ w1) (i3 : 0 ≤ s1) (j4 : s1 < w1.length) (z5 : aq0 ≠ 0) (k : Rn d bc bs mX3_countOrders 44 [some (vR r0), some (vR r1), some (vI x2), some (vI x3), some (vI x4), some (vI x5), some (vI x6), l7, l8, l9] [] (up h aq0 (cJ (w1.set (s1 : Int).toNat 0))) n Q) : Rn d (bc) (bs) mX3_countOrders 42 [some (vR r0), some (vR r1), some (vI x2), some (vI x3), some (vI x4), some (vI x5), some (vI x6), l7, l8, l9] [vI s1, vR (some aq0)] h n Q := by
  refine Rn_lconst (x := 0) dX3_countOrders_42 rfl ?_
  refine Rn_lastore dX3_countOrders_43 z5 h2 i3 j4 ?_
  exact k
theorem BX3_countOrders_44 {d bc bs : Nat} {h : aH} {n : Nat} {Q : aQ} {r0 r1 : Option Nat} {x2 x3 x4 x5 x6 : Int} {l7 l8 l9 : Option aV} (k : Rn d bc bs mX3_countOrders 47 [some (vR r0), some (vR r1), some (vI x2), some (vI x3), some (vI x4), some (vI x5), some (vI x6), some (vI 0), l8, l9] [] h n Q) : Rn d (bc) (bs) mX3_countOrders 44 [some (vR r0), some (vR r1), some (vI x2), some (vI x3), some (vI x4), some (vI x5), some (vI x6), l7, l8, l9] [] h n Q := by
  refine Rn_iconst dX3_countOrders_44 rfl ?_
  refine Rn_istore dX3_countOrders_45 (Nat.le_of_ble_eq_true rfl) rfl rfl ?_
  exact k
theorem BX3_countOrders_47 {d bc bs : Nat} {h : aH} {n : Nat} {Q : aQ} {r0 r1 : Option Nat} {x2 x3 x4 x5 x6 x7 : Int} {l8 l9 : Option aV} (kt : x2 ≤ x7 → Rn d bc bs mX3_countOrders 139 [some (vR r0), some (vR r1), some (vI x2), some (vI x3), some (vI x4), some (vI x5), some (vI x6), some (vI x7), l8, l9] [] h n Q) (kf : x7 < x2 → Rn d bc bs mX3_countOrders 53 [some (vR r0), some (vR r1), some (vI x2), some (vI x3), some (vI x4), some (vI x5), some (vI x6), some (vI x7), l8, l9] [] h n Q) : Rn d (bc) (bs) mX3_countOrders 47 [some (vR r0), some (vR r1), some (vI x2), some (vI x3), some (vI x4), some (vI x5), some (vI x6), some (vI x7), l8, l9] [] h n Q := by
  refine Rn_iload dX3_countOrders_47 rfl ?_
  refine Rn_iload_n dX3_countOrders_49 rfl rfl ?_
  refine Rn_icmpge (tgt := 139) dX3_countOrders_50 rfl ?_ ?_
  · exact kt
  · exact kf
theorem BX3_countOrders_53 {d bc bs : Nat} {h : aH} {n : Nat} {Q : aQ} {r0 : Option Nat} {ar1 : Nat} {x2 x3 x4 x5 x6 x7 : Int} {l8 l9 : Option aV} {f1 : List aV} (h2 : h ar1 = cO 5 f1) (k : Rn d 0 0 mX5_earlierThan 0 [some (vR (some ar1)), some (vI x7)] [] h n (fun v h1 n1 => Rn (d + 1) bc bs mX3_countOrders 70 [some (vR r0), some (vR (some ar1)), some (vI x2), some (vI x3), some (vI x4), some (vI x5), some (vI x6), some (vI x7), some (vI (and32 x6 (xor32 (shl32 1 x7) (-1)))), l9] (v.toList ++ []) h1 n1 Q)) : Rn (d + 1) (bc) (bs) mX3_countOrders 53 [some (vR r0), some (vR (some ar1)), some (vI x2), some (vI x3), some (vI x4), some (vI x5), some (vI x6), some (vI x7), l8, l9] [] h n Q := by
  refine Rn_iload dX3_countOrders_53 rfl ?_
  refine Rn_iconst dX3_countOrders_55 rfl ?_
  refine Rn_iload dX3_countOrders_56 rfl ?_
  refine Rn_ishl dX3_countOrders_58 ?_
  refine Rn_iconst dX3_countOrders_59 rfl ?_
  refine Rn_ixor dX3_countOrders_60 ?_
  refine Rn_iand dX3_countOrders_61 ?_
  refine Rn_istore dX3_countOrders_62 (Nat.le_of_ble_eq_true rfl) rfl rfl ?_
  refine Rn_aload_n dX3_countOrders_64 rfl rfl rfl ?_
  refine Rn_iload dX3_countOrders_65 rfl ?_
  exact Rn_callV (ci := 5) (avs := [vI x7]) (st := []) (bc1 := 0) (bs1 := 0) (bc2 := bc) (bs2 := bs) fx_X5_earlierThan dX3_countOrders_67 wd_1283 wd_1272 wd_1273 rfl h2 rfl (Nat.le_of_ble_eq_true rfl) (Nat.le_of_ble_eq_true rfl) (by omega) (by omega) (ls1 := [some (vR (some ar1)), some (vI x7)]) rfl k
theorem BX3_countOrders_70 {d bc bs : Nat} {h : aH} {n : Nat} {Q : aQ} {r0 r1 : Option Nat} {x2 x3 x4 x5 x6 x7 x8 s0 : Int} {l9 : Option aV} (kt : x7 ≠ x4 → Rn d bc bs mX3_countOrders 94 [some (vR r0), some (vR r1), some (vI x2), some (vI x3), some (vI x4), some (vI x5), some (vI x6), some (vI x7), some (vI x8), some (vI (and32 s0 x5))] [] h n Q) (kf : x7 = x4 → Rn d bc bs mX3_countOrders 82 [some (vR r0), some (vR r1), some (vI x2), some (vI x3), some (vI x4), some (vI x5), some (vI x6), some (vI x7), some (vI x8), some (vI (and32 s0 x5))] [] h n Q) : Rn d (bc) (bs) mX3_countOrders 70 [some (vR r0), some (vR r1), some (vI x2), some (vI x3), some (vI x4), some (vI x5), some (vI x6), some (vI x7), some (vI x8), l9] [vI s0] h n Q := by
  refine Rn_iload dX3_countOrders_70 rfl ?_
  refine Rn_iand dX3_countOrders_72 ?_
  refine Rn_istore dX3_countOrders_73 (Nat.le_of_ble_eq_true rfl) rfl rfl ?_
  refine Rn_iload dX3_countOrders_75 rfl ?_
  refine Rn_iload dX3_countOrders_77 rfl ?_
  refine Rn_icmpne (tgt := 94) dX3_countOrders_79 rfl ?_ ?_
  · exact kt
  · exact kf
theorem BX3_countOrders_82 {d bc bs : Nat} {h : aH} {n : Nat} {Q : aQ} {r0 r1 : Option Nat} {x2 x3 x4 x5 x6 x7 x8 x9 : Int} (kt : x3 < 0 → Rn d bc bs mX3_countOrders 94 [some (vR r0), some (vR r1), some (vI x2), some (vI x3), some (vI x4), some (vI x5), some (vI x6), some (vI x7), some (vI x8), some (vI x9)] [] h n Q) (kf : 0 ≤ x3 → Rn d bc bs mX3_countOrders 86 [some (vR r0), some (vR r1), some (vI x2), some (vI x3), some (vI x4), some (vI x5), some (vI x6), some (vI x7), some (vI x8), some (vI x9)] [] h n Q) : Rn d (bc) (bs) mX3_countOrders 82 [some (vR r0), some (vR r1), some (vI x2), some (vI x3), some (vI x4), some (vI x5), some (vI x6), some (vI x7), some (vI x8), some (vI x9)] [] h n Q := by
  refine Rn_iload_n dX3_countOrders_82 rfl rfl ?_
  refine Rn_iflt (tgt := 94) dX3_countOrders_83 rfl ?_ ?_
  · exact kt
  · exact kf
theorem BX3_countOrders_86 {d bc bs : Nat} {h : aH} {n : Nat} {Q : aQ} {r0 r1 : Option Nat} {x2 x3 x4 x5 x6 x7 x8 x9 : Int} (kt : x6 ≤ x8 → Rn d bc bs mX3_countOrders 133 [some (vR r0), some (vR r1), some (vI x2), some (vI x3), some (vI x4), some (vI x5), some (vI x6), some (vI x7), some (vI x8), some (vI (or32 x9 (shl32 1 x3)))] [] h n Q) (kf : x8 < x6 → Rn d bc bs mX3_countOrders 101 [some (vR r0), some (vR r1), some (vI x2), some (vI x3), some (vI x4), some (vI x5), some (vI x6), some (vI x7), some (vI x8), some (vI (or32 x9 (shl32 1 x3)))] [] h n Q) : Rn d (bc) (bs) mX3_countOrders 86 [some (vR r0), some (vR r1), some (vI x2), some (vI x3), some (vI x4), some (vI x5), some (vI x6), some (vI x7), some (vI x8), some (vI x9)] [] h n Q := by
  refine Rn_iload dX3_countOrders_86 rfl ?_
  refine Rn_iconst dX3_countOrders_88 rfl ?_
  refine Rn_iload_n dX3_countOrders_89 rfl rfl ?_
  refine Rn_ishl dX3_countOrders_90 ?_
  refine Rn_ior dX3_countOrders_91 ?_
  refine Rn_istore dX3_countOrders_92 (Nat.le_of_ble_eq_true rfl) rfl rfl ?_
  refine Rn_iload dX3_countOrders_94 rfl ?_
  refine Rn_iload dX3_countOrders_96 rfl ?_
  refine Rn_icmpge (tgt := 133) dX3_countOrders_98 rfl ?_ ?_
  · exact kt
  · exact kf
theorem BX3_countOrders_94 {d bc bs : Nat} {h : aH} {n : Nat} {Q : aQ} {r0 r1 : Option Nat} {x2 x3 x4 x5 x6 x7 x8 x9 : Int} (kt : x6 ≤ x8 → Rn d bc bs mX3_countOrders 133 [some (vR r0), some (vR r1), some (vI x2), some (vI x3), some (vI x4), some (vI x5), some (vI x6), some (vI x7), some (vI x8), some (vI x9)] [] h n Q) (kf : x8 < x6 → Rn d bc bs mX3_countOrders 101 [some (vR r0), some (vR r1), some (vI x2), some (vI x3), some (vI x4), some (vI x5), some (vI x6), some (vI x7), some (vI x8), some (vI x9)] [] h n Q) : Rn d (bc) (bs) mX3_countOrders 94 [some (vR r0), some (vR r1), some (vI x2), some (vI x3), some (vI x4), some (vI x5), some (vI x6), some (vI x7), some (vI x8), some (vI x9)] [] h n Q := by
  refine Rn_iload dX3_countOrders_94 rfl ?_
  refine Rn_iload dX3_countOrders_96 rfl ?_
  refine Rn_icmpge (tgt := 133) dX3_countOrders_98 rfl ?_ ?_
  · exact kt
  · exact kf
theorem BX3_countOrders_101 {d bc bs : Nat} {h : aH} {n : Nat} {Q : aQ} {r0 r1 : Option Nat} {x2 x3 x4 x5 x6 x7 x8 x9 : Int} (kt : x8 < 0 → Rn d bc bs mX3_countOrders 133 [some (vR r0), some (vR r1), some (vI x2), some (vI x3), some (vI x4), some (vI x5), some (vI x6), some (vI x7), some (vI x8), some (vI x9)] [] h n Q) (kf : 0 ≤ x8 → Rn d bc bs mX3_countOrders 106 [some (vR r0), some (vR r1), some (vI x2), some (vI x3), some (vI x4), some (vI x5), some (vI x6), some (vI x7), some (vI x8), some (vI x9)] [] h n Q) : Rn d (bc) (bs) mX3_countOrders 101 [some (vR r0), some (vR r1), some (vI x2), some (vI x3), some (vI x4), some (vI x5), some (vI x6), some (vI x7), some (vI x8), some (vI x9)] [] h n Q := by
  refine Rn_iload dX3_countOrders_101 rfl ?_
  refine Rn_iflt (tgt := 133) dX3_countOrders_103 rfl ?_ ?_
  · exact kt
  · exact kf
theorem BX3_countOrders_106 {d bc bs : Nat} {h : aH} {n : Nat} {Q : aQ} {r0 r1 : Option Nat} {x2 x3 x4 x5 x6 x7 x8 x9 : Int} (kt : (and32 x9 (xor32 x8 (-1))) ≠ 0 → Rn d bc bs mX3_countOrders 133 [some (vR r0), some (vR r1), some (vI x2), some (vI x3), some (vI x4), some (vI x5), some (vI x6), some (vI x7), some (vI x8), some (vI x9)] [] h n Q) (kf : (and32 x9 (xor32 x8 (-1))) = 0 → Rn d bc bs mX3_countOrders 116 [some (vR r0), some (vR r1), some (vI x2), some (vI x3), some (vI x4), some (vI x5), some (vI x6), some (vI x7), some (vI x8), some (vI x9)] [] h n Q) : Rn d (bc) (bs) mX3_countOrders 106 [some (vR r0), some (vR r1), some (vI x2), some (vI x3), some (vI x4), some (vI x5), some (vI x6), some (vI x7), some (vI x8), some (vI x9)] [] h n Q := by
  refine Rn_iload dX3_countOrders_106 rfl ?_
  refine Rn_iload dX3_countOrders_108 rfl ?_
  refine Rn_iconst dX3_countOrders_110 rfl ?_
  refine Rn_ixor dX3_countOrders_111 ?_
  refine Rn_iand dX3_countOrders_112 ?_
  refine Rn_ifne (tgt := 133) dX3_countOrders_113 rfl ?_ ?_
  · exact kt
  · exact kf
theorem BX3_countOrders_116 {d bc bs : Nat} {h : aH} {n : Nat} {Q : aQ} {ar0 at3 : Nat} {r1 : Option Nat} {x2 x3 x4 x5 x6 x7 x8 x9 v7 v11 : Int} {f1 : List aV} {w5 : List Int} (h2 : h ar0 = cO 3 f1) (g4 : f1[3]? = some (vR (some at3))) (h6 : h at3 = cJ w5) (i8 : 0 ≤ x6) (g9 : w5[(x6 : Int).toNat]? = some v7) (z10 : at3 ≠ 0) (i12 : 0 ≤ x8) (g13 : w5[(x8 : Int).toNat]? = some v11) (b14 : -9223372036854775808 ≤ v7 + v11 ∧ v7 + v11 < 9223372036854775808) (j15 : x6 < w5.length) (k : Rn d bc bs mX3_countOrders 133 [some (vR (some ar0)), some (vR r1), some (vI x2), some (vI x3), some (vI x4), some (vI x5), some (vI x6), some (vI x7), some (vI x8), some (vI x9)] [] (up h at3 (cJ (w5.set (x6 : Int).toNat (v7 + v11)))) n Q) : Rn d (bc) (bs) mX3_countOrders 116 [some (vR (some ar0)), some (vR r1), some (vI x2), some (vI x3), some (vI x4), some (vI x5), some (vI x6), some (vI x7), some (vI x8), some (vI x9)] [] h n Q := by
  refine Rn_aload_n dX3_countOrders_116 rfl rfl rfl ?_
  refine Rn_getfield (ci := 3) (k := 3) dX3_countOrders_117 rfl in_3 (Nat.le_of_ble_eq_true rfl) wd_441 rfl h2 g4 ?_
  refine Rn_iload dX3_countOrders_120 rfl ?_
  refine Rn_dup2 dX3_countOrders_122 rfl rfl ?_
  refine Rn_laload dX3_countOrders_123 z10 h6 i8 g9 ?_
  refine Rn_aload_n dX3_countOrders_124 rfl rfl rfl ?_
  refine Rn_getfield (ci := 3) (k := 3) dX3_countOrders_125 rfl in_3 (Nat.le_of_ble_eq_true rfl) wd_441 rfl h2 g4 ?_
  refine Rn_iload dX3_countOrders_128 rfl ?_
  refine Rn_laload dX3_countOrders_130 z10 h6 i12 g13 ?_
  refine Rn_ladd dX3_countOrders_131 ?_
  rw [w64_id b14.1 b14.2]
  refine Rn_lastore dX3_countOrders_132 z10 h6 i8 j15 ?_
  exact k
theorem BX3_countOrders_133 {d bc bs : Nat} {h : aH} {n : Nat} {Q : aQ} {r0 r1 : Option Nat} {x2 x3 x4 x5 x6 x7 x8 x9 : Int} (b1 : -2147483648 ≤ x7 + 1 ∧ x7 + 1 < 2147483648) (k : Rn d bc bs mX3_countOrders 47 [some (vR r0), some (vR r1), some (vI x2), some (vI x3), some (vI x4), some (vI x5), some (vI x6), some (vI (x7 + 1)), some (vI x8), some (vI x9)] [] h n Q) : Rn d (bc) (bs) mX3_countOrders 133 [some (vR r0), some (vR r1), some (vI x2), some (vI x3), some (vI x4), some (vI x5), some (vI x6), some (vI x7), some (vI x8), some (vI x9)] [] h n Q := by
  refine Rn_iinc dX3_countOrders_133 rfl (Nat.le_of_ble_eq_true rfl) rfl rfl rfl ?_
  rw [w32_id b1.1 b1.2]
  refine Rn_goto (tgt := 47) dX3_countOrders_136 rfl ?_
  exact k
theorem BX3_countOrders_139 {d bc bs : Nat} {h : aH} {n : Nat} {Q : aQ} {r0 r1 : Option Nat} {x2 x3 x4 x5 x6 x7 : Int} {l8 l9 : Option aV} (b1 : -2147483648 ≤ x6 + 1 ∧ x6 + 1 < 2147483648) (k : Rn d bc bs mX3_countOrders 10 [some (vR r0), some (vR r1), some (vI x2), some (vI x3), some (vI x4), some (vI x5), some (vI (x6 + 1)), some (vI x7), l8, l9] [] h n Q) : Rn d (bc) (bs) mX3_countOrders 139 [some (vR r0), some (vR r1), some (vI x2), some (vI x3), some (vI x4), some (vI x5), some (vI x6), some (vI x7), l8, l9] [] h n Q := by
  refine Rn_iinc dX3_countOrders_139 rfl (Nat.le_of_ble_eq_true rfl) rfl rfl rfl ?_
  rw [w32_id b1.1 b1.2]
  refine Rn_goto (tgt := 10) dX3_countOrders_142 rfl ?_
  exact k
theorem BX3_countOrders_145 {d bc bs : Nat} {h : aH} {n : Nat} {Q : aQ} {r0 r1 : Option Nat} {x2 x3 x4 x5 x6 : Int} {l7 l8 l9 : Option aV} (kt : x5 < 0 → Rn d bc bs mX3_countOrders 170 [some (vR r0), some (vR r1), some (vI x2), some (vI x3), some (vI x4), some (vI x5), some (vI x6), l7, l8, l9] [] h n Q) (kf : 0 ≤ x5 → Rn d bc bs mX3_countOrders 150 [some (vR r0), some (vR r1), some (vI x2), some (vI x3), some (vI x4), some (vI x5), some (vI x6), l7, l8, l9] [] h n Q) : Rn d (bc) (bs) mX3_countOrders 145 [some (vR r0), some (vR r1), some (vI x2), some (vI x3), some (vI x4), some (vI x5), some (vI x6), l7, l8, l9] [] h n Q := by
  refine Rn_iload dX3_countOrders_145 rfl ?_
  refine Rn_iflt (tgt := 170) dX3_countOrders_147 rfl ?_ ?_
  · exact kt
  · exact kf
theorem BX3_countOrders_150 {d bc bs : Nat} {h : aH} {n : Nat} {Q : aQ} {ar0 at3 : Nat} {r1 : Option Nat} {x2 x3 x4 x5 x6 : Int} {l7 l8 l9 : Option aV} {f1 : List aV} {w5 : List Int} (h2 : h ar0 = cO 3 f1) (g4 : f1[3]? = some (vR (some at3))) (h6 : h at3 = cJ w5) (y7 : w5.length < 2147483648) (z8 : at3 ≠ 0) (kt : (w5.length : Int) ≤ x5 → Rn d bc bs mX3_countOrders 170 [some (vR (some ar0)), some (vR r1), some (vI x2), some (vI x3), some (vI x4), some (vI x5), some (vI x6), l7, l8, l9] [] h n Q) (kf : x5 < (w5.length : Int) → Rn d bc bs mX3_countOrders 160 [some (vR (some ar0)), some (vR r1), some (vI x2), some (vI x3), some (vI x4), some (vI x5), some (vI x6), l7, l8, l9] [] h n Q) : Rn d (bc) (bs) mX3_countOrders 150 [some (vR (some ar0)), some (vR r1), some (vI x2), some (vI x3), some (vI x4), some (vI x5), some (vI x6), l7, l8, l9] [] h n Q := by
  refine Rn_iload dX3_countOrders_150 rfl ?_
  refine Rn_aload_n dX3_countOrders_152 rfl rfl rfl ?_
  refine Rn_getfield (ci := 3) (k := 3) dX3_countOrders_153 rfl in_3 (Nat.le_of_ble_eq_true rfl) wd_441 rfl h2 g4 ?_
  refine Rn_alenJ dX3_countOrders_156 z8 h6 y7 ?_
  refine Rn_icmpge (tgt := 170) dX3_countOrders_157 rfl ?_ ?_
  · exact kt
  · exact kf
theorem BX3_countOrders_160 {d bc bs : Nat} {h : aH} {n : Nat} {Q : aQ} {ar0 at3 : Nat} {r1 : Option Nat} {x2 x3 x4 x5 x6 v7 : Int} {l7 l8 l9 : Option aV} {f1 : List aV} {w5 : List Int} (h2 : h ar0 = cO 3 f1) (g4 : f1[3]? = some (vR (some at3))) (h6 : h at3 = cJ w5) (i8 : 0 ≤ x5) (g9 : w5[(x5 : Int).toNat]? = some v7) (z10 : at3 ≠ 0) (k : Q (some (vL v7)) h n) : Rn d (bc) (bs) mX3_countOrders 160 [some (vR (some ar0)), some (vR r1), some (vI x2), some (vI x3), some (vI x4), some (vI x5), some (vI x6), l7, l8, l9] [] h n Q := by
  refine Rn_aload_n dX3_countOrders_160 rfl rfl rfl ?_
  refine Rn_getfield (ci := 3) (k := 3) dX3_countOrders_161 rfl in_3 (Nat.le_of_ble_eq_true rfl) wd_441 rfl h2 g4 ?_
  refine Rn_iload dX3_countOrders_164 rfl ?_
  refine Rn_laload dX3_countOrders_166 z10 h6 i8 g9 ?_
  refine Rn_goto (tgt := 171) dX3_countOrders_167 rfl ?_
  exact Rn_lreturn rfl dX3_countOrders_171 k
theorem BX3_countOrders_170 {d bc bs : Nat} {h : aH} {n : Nat} {Q : aQ} {r0 r1 : Option Nat} {x2 x3 x4 x5 x6 : Int} {l7 l8 l9 : Option aV} (k : Q (some (vL 0)) h n) : Rn d (bc) (bs) mX3_countOrders 170 [some (vR r0), some (vR r1), some (vI x2), some (vI x3), some (vI x4), some (vI x5), some (vI x6), l7, l8, l9] [] h n Q := by
  refine Rn_lconst (x := 0) dX3_countOrders_170 rfl ?_
  exact Rn_lreturn rfl dX3_countOrders_171 k
theorem dX9_init_0 : decode cX9_init 0 = .ok (.aload_n 0, 1) := by decide +kernel
theorem dX9_init_1 : decode cX9_init 1 = .ok (.invokespecial 3, 3) := by decide +kernel
theorem dX9_init_4 : decode cX9_init 4 = .ok (.aload_n 0, 1) := by decide +kernel
theorem dX9_init_5 : decode cX9_init 5 = .ok (.sipush 300, 3) := by decide +kernel
theorem dX9_init_8 : decode cX9_init 8 = .ok (.newarray .int, 2) := by decide +kernel
theorem dX9_init_10 : decode cX9_init 10 = .ok (.putfield 9, 3) := by decide +kernel
theorem dX9_init_13 : decode cX9_init 13 = .ok (.aload_n 0, 1) := by decide +kernel
theorem dX9_init_14 : decode cX9_init 14 = .ok (.iconst 0, 1) := by decide +kernel
theorem dX9_init_15 : decode cX9_init 15 = .ok (.putfield 15, 3) := by decide +kernel
theorem dX9_init_18 : decode cX9_init 18 = .ok (.aload_n 0, 1) := by decide +kernel
theorem dX9_init_19 : decode cX9_init 19 = .ok (.iconst 0, 1) := by decide +kernel
theorem dX9_init_20 : decode cX9_init 20 = .ok (.putfield 19, 3) := by decide +kernel
theorem dX9_init_23 : decode cX9_init 23 = .ok (.aload_n 0, 1) := by decide +kernel
theorem dX9_init_24 : decode cX9_init 24 = .ok (.iconst 0, 1) := by decide +kernel
theorem dX9_init_25 : decode cX9_init 25 = .ok (.putfield 22, 3) := by decide +kernel
theorem dX9_init_28 : decode cX9_init 28 = .ok (.aload_n 0, 1) := by decide +kernel
theorem dX9_init_29 : decode cX9_init 29 = .ok (.iconst 0, 1) := by decide +kernel
theorem dX9_init_30 : decode cX9_init 30 = .ok (.putfield 25, 3) := by decide +kernel
theorem dX9_init_33 : decode cX9_init 33 = .ok (.aload_n 0, 1) := by decide +kernel
theorem dX9_init_34 : decode cX9_init 34 = .ok (.iconst 0, 1) := by decide +kernel
theorem dX9_init_35 : decode cX9_init 35 = .ok (.putfield 28, 3) := by decide +kernel
theorem dX9_init_38 : decode cX9_init 38 = .ok (.return_, 1) := by decide +kernel
theorem BX9_init_0 {d bc bs : Nat} {h : aH} {n : Nat} {Q : aQ} {ar0 : Nat} (k : Rn (d + 1) bc bs mX9_init 10 [some (vR (some ar0))] [vR (some n), vR (some ar0)] (up h n (cI (List.replicate 300 0))) (n + 1) Q) : Rn (d + 1) (bc + 1) (bs + 300) mX9_init 0 [some (vR (some ar0))] [] h n Q := by
  refine Rn_aload_n dX9_init_0 rfl rfl rfl ?_
  refine Rn_objInit dX9_init_1 wd_325 wd_149 wd_150 (Nat.le_of_ble_eq_true rfl) ?_
  refine Rn_aload_n dX9_init_4 rfl rfl rfl ?_
  refine Rn_sipush dX9_init_5 rfl ?_
  refine Rn_newarrI (N := 300) (bc := bc) (bs := bs) (by omega) (by omega) wd_181 dX9_init_8 (by decide) ?_
  exact k
theorem BX9_init_10 {d bc bs : Nat} {h : aH} {n : Nat} {Q : aQ} {r0 q1 : Option Nat} {aq0 : Nat} {f1 : List aV} (h2 : h aq0 = cO 9 f1) (m3 : 0 < f1.length) (k : Rn d bc bs mX9_init 13 [some (vR r0)] [] (up h aq0 (cO 9 (f1.set 0 (vR q1)))) n Q) : Rn d (bc) (bs) mX9_init 10 [some (vR r0)] [vR q1, vR (some aq0)] h n Q := by
  refine Rn_putfield (ci := 9) (k := 0) dX9_init_10 rfl in_9 tyX9_ok nmX9 (Nat.le_of_ble_eq_true rfl) wd_326 rfl (Or.inr ⟨rfl, rfl⟩) trivial m3 h2 ?_
  exact k
theorem BX9_init_13 {d bc bs : Nat} {h : aH} {n : Nat} {Q : aQ} {ar0 : Nat} {f1 : List aV} (h2 : h ar0 = cO 9 f1) (m3 : 1 < f1.length) (k : Rn d bc bs mX9_init 18 [some (vR (some ar0))] [] (up h ar0 (cO 9 (f1.set 1 (vI 0)))) n Q) : Rn d (bc) (bs) mX9_init 13 [some (vR (some ar0))] [] h n Q := by
  refine Rn_aload_n dX9_init_13 rfl rfl rfl ?_
  refine Rn_iconst dX9_init_14 rfl ?_
  refine Rn_putfield (ci := 9) (k := 1) dX9_init_15 rfl in_9 tyX9_ok nmX9 (Nat.le_of_ble_eq_true rfl) wd_327 rfl (Or.inl rfl) trivial m3 h2 ?_
  exact k
theorem BX9_init_18 {d bc bs : Nat} {h : aH} {n : Nat} {Q : aQ} {ar0 : Nat} {f1 : List aV} (h2 : h ar0 = cO 9 f1) (m3 : 2 < f1.length) (k : Rn d bc bs mX9_init 23 [some (vR (some ar0))] [] (up h ar0 (cO 9 (f1.set 2 (vI 0)))) n Q) : Rn d (bc) (bs) mX9_init 18 [some (vR (some ar0))] [] h n Q := by
  refine Rn_aload_n dX9_init_18 rfl rfl rfl ?_
  refine Rn_iconst dX9_init_19 rfl ?_
  refine Rn_putfield (ci := 9) (k := 2) dX9_init_20 rfl in_9 tyX9_ok nmX9 (Nat.le_of_ble_eq_true rfl) wd_329 rfl (Or.inl rfl) trivial m3 h2 ?_
  exact k
theorem BX9_init_23 {d bc bs : Nat} {h : aH} {n : Nat} {Q : aQ} {ar0 : Nat} {f1 : List aV} (h2 : h ar0 = cO 9 f1) (m3 : 3 < f1.length) (k : Rn d bc bs mX9_init 28 [some (vR (some ar0))] [] (up h ar0 (cO 9 (f1.set 3 (vI 0)))) n Q) : Rn d (bc) (bs) mX9_init 23 [some (vR (some ar0))] [] h n Q := by
  refine Rn_aload_n dX9_init_23 rfl rfl rfl ?_
  refine Rn_iconst dX9_init_24 rfl ?_
  refine Rn_putfield (ci := 9) (k := 3) dX9_init_25 rfl in_9 tyX9_ok nmX9 (Nat.le_of_ble_eq_true rfl) wd_331 rfl (Or.inl rfl) trivial m3 h2 ?_
  exact k
theorem BX9_init_28 {d bc bs : Nat} {h : aH} {n : Nat} {Q : aQ} {ar0 : Nat} {f1 : List aV} (h2 : h ar0 = cO 9 f1) (m3 : 4 < f1.length) (k : Rn d bc bs mX9_init 33 [some (vR (some ar0))] [] (up h ar0 (cO 9 (f1.set 4 (vI 0)))) n Q) : Rn d (bc) (bs) mX9_init 28 [some (vR (some ar0))] [] h n Q := by
  refine Rn_aload_n dX9_init_28 rfl rfl rfl ?_
  refine Rn_iconst dX9_init_29 rfl ?_
  refine Rn_putfield (ci := 9) (k := 4) dX9_init_30 rfl in_9 tyX9_ok nmX9 (Nat.le_of_ble_eq_true rfl) wd_333 rfl (Or.inl rfl) trivial m3 h2 ?_
  exact k
theorem BX9_init_33 {d bc bs : Nat} {h : aH} {n : Nat} {Q : aQ} {ar0 : Nat} {f1 : List aV} (h2 : h ar0 = cO 9 f1) (m3 : 5 < f1.length) (k : Rn d bc bs mX9_init 38 [some (vR (some ar0))] [] (up h ar0 (cO 9 (f1.set 5 (vI 0)))) n Q) : Rn d (bc) (bs) mX9_init 33 [some (vR (some ar0))] [] h n Q := by
  refine Rn_aload_n dX9_init_33 rfl rfl rfl ?_
  refine Rn_iconst dX9_init_34 rfl ?_
  refine Rn_putfield (ci := 9) (k := 5) dX9_init_35 rfl in_9 tyX9_ok nmX9 (Nat.le_of_ble_eq_true rfl) wd_335 rfl (Or.inl rfl) trivial m3 h2 ?_
  exact k
theorem BX9_init_38 {d bc bs : Nat} {h : aH} {n : Nat} {Q : aQ} {r0 : Option Nat} (k : Q none h n) : Rn d (bc) (bs) mX9_init 38 [some (vR r0)] [] h n Q := by
  exact Rn_return rfl dX9_init_38 k
theorem dX9_hasRoom_0 : decode cX9_hasRoom 0 = .ok (.aload_n 0, 1) := by decide +kernel
theorem dX9_hasRoom_1 : decode cX9_hasRoom 1 = .ok (.getfield 15, 3) := by decide +kernel
theorem dX9_hasRoom_4 : decode cX9_hasRoom 4 = .ok (.iload_n 1, 1) := by decide +kernel
theorem dX9_hasRoom_5 : decode cX9_hasRoom 5 = .ok (.iadd, 1) := by decide +kernel
theorem dX9_hasRoom_6 : decode cX9_hasRoom 6 = .ok (.sipush 300, 3) := by decide +kernel
theorem dX9_hasRoom_9 : decode cX9_hasRoom 9 = .ok (.if_icmp .gt 7, 3) := by decide +kernel
theorem dX9_hasRoom_12 : decode cX9_hasRoom 12 = .ok (.iconst 1, 1) := by decide +kernel
theorem dX9_hasRoom_13 : decode cX9_hasRoom 13 = .ok (.goto 4, 3) := by decide +kernel
theorem dX9_hasRoom_16 : decode cX9_hasRoom 16 = .ok (.iconst 0, 1) := by decide +kernel
theorem dX9_hasRoom_17 : decode cX9_hasRoom 17 = .ok (.ireturn, 1) := by decide +kernel
theorem BX9_hasRoom_0 {d bc bs : Nat} {h : aH} {n : Nat} {Q : aQ} {ar0 : Nat} {x1 v3 : Int} {f1 : List aV} (h2 : h ar0 = cO 9 f1) (g4 : f1[1]? = some (vI v3)) (b5 : -2147483648 ≤ v3 + x1 ∧ v3 + x1 < 2147483648) (kt : 300 < (v3 + x1) → Rn d bc bs mX9_hasRoom 16 [some (vR (some ar0)), some (vI x1)] [] h n Q) (kf : (v3 + x1) ≤ 300 → Rn d bc bs mX9_hasRoom 12 [some (vR (some ar0)), some (vI x1)] [] h n Q) : Rn d (bc) (bs) mX9_hasRoom 0 [some (vR (some ar0)), some (vI x1)] [] h n Q := by
  refine Rn_aload_n dX9_hasRoom_0 rfl rfl rfl ?_
  refine Rn_getfield (ci := 9) (k := 1) dX9_hasRoom_1 rfl in_9 (Nat.le_of_ble_eq_true rfl) wd_327 rfl h2 g4 ?_
  refine Rn_iload_n dX9_hasRoom_4 rfl rfl ?_
  refine Rn_iadd dX9_hasRoom_5 ?_
  rw [w32_id b5.1 b5.2]
  refine Rn_sipush dX9_hasRoom_6 rfl ?_
  refine Rn_icmpgt (tgt := 16) dX9_hasRoom_9 rfl ?_ ?_
  · exact kt
  · exact kf
theorem BX9_hasRoom_12 {d bc bs : Nat} {h : aH} {n : Nat} {Q : aQ} {r0 : Option Nat} {x1 : Int} (k : Q (some (vI 1)) h n) : Rn d (bc) (bs) mX9_hasRoom 12 [some (vR r0), some (vI x1)] [] h n Q := by
  refine Rn_iconst dX9_hasRoom_12 rfl ?_
  refine Rn_goto (tgt := 17) dX9_hasRoom_13 rfl ?_
  exact Rn_zreturn rfl dX9_hasRoom_17 (by decide) k
theorem BX9_hasRoom_16 {d bc bs : Nat} {h : aH} {n : Nat} {Q : aQ} {r0 : Option Nat} {x1 : Int} (k : Q (some (vI 0)) h n) : Rn d (bc) (bs) mX9_hasRoom 16 [some (vR r0), some (vI x1)] [] h n Q := by
  refine Rn_iconst dX9_hasRoom_16 rfl ?_
  exact Rn_zreturn rfl dX9_hasRoom_17 (by decide) k
theorem dX9_addFour_0 : decode cX9_addFour 0 = .ok (.bipush 24, 2) := by decide +kernel
theorem dX9_addFour_2 : decode cX9_addFour 2 = .ok (.istore_n 2, 1) := by decide +kernel
theorem dX9_addFour_3 : decode cX9_addFour 3 = .ok (.iload_n 2, 1) := by decide +kernel
theorem dX9_addFour_4 : decode cX9_addFour 4 = .ok (.ifCond .lt 37, 3) := by decide +kernel
theorem dX9_addFour_7 : decode cX9_addFour 7 = .ok (.aload_n 0, 1) := by decide +kernel
theorem dX9_addFour_8 : decode cX9_addFour 8 = .ok (.getfield 9, 3) := by decide +kernel
theorem dX9_addFour_11 : decode cX9_addFour 11 = .ok (.aload_n 0, 1) := by decide +kernel
theorem dX9_addFour_12 : decode cX9_addFour 12 = .ok (.getfield 15, 3) := by decide +kernel
theorem dX9_addFour_15 : decode cX9_addFour 15 = .ok (.iload_n 1, 1) := by decide +kernel
theorem dX9_addFour_16 : decode cX9_addFour 16 = .ok (.iload_n 2, 1) := by decide +kernel
theorem dX9_addFour_17 : decode cX9_addFour 17 = .ok (.ishr, 1) := by decide +kernel
theorem dX9_addFour_18 : decode cX9_addFour 18 = .ok (.sipush 255, 3) := by decide +kernel
theorem dX9_addFour_21 : decode cX9_addFour 21 = .ok (.iand, 1) := by decide +kernel
theorem dX9_addFour_22 : decode cX9_addFour 22 = .ok (.invokestatic 31, 3) := by decide +kernel
theorem dX9_addFour_25 : decode cX9_addFour 25 = .ok (.aload_n 0, 1) := by decide +kernel
theorem dX9_addFour_26 : decode cX9_addFour 26 = .ok (.dup, 1) := by decide +kernel
theorem dX9_addFour_27 : decode cX9_addFour 27 = .ok (.getfield 15, 3) := by decide +kernel
theorem dX9_addFour_30 : decode cX9_addFour 30 = .ok (.iconst 1, 1) := by decide +kernel
theorem dX9_addFour_31 : decode cX9_addFour 31 = .ok (.iadd, 1) := by decide +kernel
theorem dX9_addFour_32 : decode cX9_addFour 32 = .ok (.putfield 15, 3) := by decide +kernel
theorem dX9_addFour_35 : decode cX9_addFour 35 = .ok (.iinc 2 (-8), 3) := by decide +kernel
theorem dX9_addFour_38 : decode cX9_addFour 38 = .ok (.goto (-35), 3) := by decide +kernel
theorem dX9_addFour_41 : decode cX9_addFour 41 = .ok (.return_, 1) := by decide +kernel
theorem BX9_addFour_0 {d bc bs : Nat} {h : aH} {n : Nat} {Q : aQ} {r0 : Option Nat} {x1 : Int} {l2 : Option aV} (k : Rn d bc bs mX9_addFour 3 [some (vR r0), some (vI x1), some (vI 24)] [] h n Q) : Rn d (bc) (bs) mX9_addFour 0 [some (vR r0), some (vI x1), l2] [] h n Q := by
  refine Rn_bipush dX9_addFour_0 rfl ?_
  refine Rn_istore_n dX9_addFour_2 rfl (Nat.le_of_ble_eq_true rfl) rfl rfl ?_
  exact k
theorem BX9_addFour_3 {d bc bs : Nat} {h : aH} {n : Nat} {Q : aQ} {r0 : Option Nat} {x1 x2 : Int} (kt : x2 < 0 → Rn d bc bs mX9_addFour 41 [some (vR r0), some (vI x1), some (vI x2)] [] h n Q) (kf : 0 ≤ x2 → Rn d bc bs mX9_addFour 7 [some (vR r0), some (vI x1), some (vI x2)] [] h n Q) : Rn d (bc) (bs) mX9_addFour 3 [some (vR r0), some (vI x1), some (vI x2)] [] h n Q := by
  refine Rn_iload_n dX9_addFour_3 rfl rfl ?_
  refine Rn_iflt (tgt := 41) dX9_addFour_4 rfl ?_ ?_
  · exact kt
  · exact kf
theorem BX9_addFour_7 {d bc bs : Nat} {h : aH} {n : Nat} {Q : aQ} {ar0 : Nat} {x1 x2 v5 : Int} {f1 : List aV} {t3 : Option Nat} (h2 : h ar0 = cO 9 f1) (g4 : f1[0]? = some (vR t3)) (g6 : f1[1]? = some (vI v5)) (k : Rn d 0 0 mX12_setCell 0 [some (vR t3), some (vI v5), some (vI (and32 (shr32 x1 x2) 255))] [] h n (fun v h1 n1 => Rn (d + 1) bc bs mX9_addFour 25 [some (vR (some ar0)), some (vI x1), some (vI x2)] (v.toList ++ []) h1 n1 Q)) : Rn (d + 1) (bc) (bs) mX9_addFour 7 [some (vR (some ar0)), some (vI x1), some (vI x2)] [] h n Q := by
  refine Rn_aload_n dX9_addFour_7 rfl rfl rfl ?_
  refine Rn_getfield (ci := 9) (k := 0) dX9_addFour_8 rfl in_9 (Nat.le_of_ble_eq_true rfl) wd_326 rfl h2 g4 ?_
  refine Rn_aload_n dX9_addFour_11 rfl rfl rfl ?_
  refine Rn_getfield (ci := 9) (k := 1) dX9_addFour_12 rfl in_9 (Nat.le_of_ble_eq_true rfl) wd_327 rfl h2 g6 ?_
  refine Rn_iload_n dX9_addFour_15 rfl rfl ?_
  refine Rn_iload_n dX9_addFour_16 rfl rfl ?_
  refine Rn_ishr dX9_addFour_17 ?_
  refine Rn_sipush dX9_addFour_18 rfl ?_
  refine Rn_iand dX9_addFour_21 ?_
  exact Rn_callS (avs := [vR t3, vI v5, vI (and32 (shr32 x1 x2) 255)]) (st := []) (bc1 := 0) (bs1 := 0) (bc2 := bc) (bs2 := bs) fx_X12_setCell dX9_addFour_22 (Or.inr ⟨"BottledPost", List.mem_of_getElem? (i := 14) rfl⟩) wd_164 rfl (Nat.le_of_ble_eq_true rfl) (Nat.le_of_ble_eq_true rfl) (by omega) (by omega) (ls1 := [some (vR t3), some (vI v5), some (vI (and32 (shr32 x1 x2) 255))]) rfl k
theorem BX9_addFour_25 {d bc bs : Nat} {h : aH} {n : Nat} {Q : aQ} {ar0 : Nat} {x1 x2 v3 : Int} {f1 : List aV} (h2 : h ar0 = cO 9 f1) (g4 : f1[1]? = some (vI v3)) (b5 : -2147483648 ≤ v3 + 1 ∧ v3 + 1 < 2147483648) (m6 : 1 < f1.length) (k : Rn d bc bs mX9_addFour 35 [some (vR (some ar0)), some (vI x1), some (vI x2)] [] (up h ar0 (cO 9 (f1.set 1 (vI (v3 + 1))))) n Q) : Rn d (bc) (bs) mX9_addFour 25 [some (vR (some ar0)), some (vI x1), some (vI x2)] [] h n Q := by
  refine Rn_aload_n dX9_addFour_25 rfl rfl rfl ?_
  refine Rn_dup dX9_addFour_26 rfl ?_
  refine Rn_getfield (ci := 9) (k := 1) dX9_addFour_27 rfl in_9 (Nat.le_of_ble_eq_true rfl) wd_327 rfl h2 g4 ?_
  refine Rn_iconst dX9_addFour_30 rfl ?_
  refine Rn_iadd dX9_addFour_31 ?_
  rw [w32_id b5.1 b5.2]
  refine Rn_putfield (ci := 9) (k := 1) dX9_addFour_32 rfl in_9 tyX9_ok nmX9 (Nat.le_of_ble_eq_true rfl) wd_327 rfl (Or.inl rfl) trivial m6 h2 ?_
  exact k
theorem BX9_addFour_35 {d bc bs : Nat} {h : aH} {n : Nat} {Q : aQ} {r0 : Option Nat} {x1 x2 : Int} (b1 : -2147483648 ≤ x2 + (-8) ∧ x2 + (-8) < 2147483648) (k : Rn d bc bs mX9_addFour 3 [some (vR r0), some (vI x1), some (vI (x2 + (-8)))] [] h n Q) : Rn d (bc) (bs) mX9_addFour 35 [some (vR r0), some (vI x1), some (vI x2)] [] h n Q := by
  refine Rn_iinc dX9_addFour_35 rfl (Nat.le_of_ble_eq_true rfl) rfl rfl rfl ?_
  rw [w32_id b1.1 b1.2]
  refine Rn_goto (tgt := 3) dX9_addFour_38 rfl ?_
  exact k
theorem BX9_addFour_41 {d bc bs : Nat} {h : aH} {n : Nat} {Q : aQ} {r0 : Option Nat} {x1 x2 : Int} (k : Q none h n) : Rn d (bc) (bs) mX9_addFour 41 [some (vR r0), some (vI x1), some (vI x2)] [] h n Q := by
  exact Rn_return rfl dX9_addFour_41 k
theorem dX9_comeToFirst_0 : decode cX9_comeToFirst 0 = .ok (.aload_n 0, 1) := by decide +kernel
theorem dX9_comeToFirst_1 : decode cX9_comeToFirst 1 = .ok (.iconst 0, 1) := by decide +kernel
theorem dX9_comeToFirst_2 : decode cX9_comeToFirst 2 = .ok (.putfield 28, 3) := by decide +kernel
theorem dX9_comeToFirst_5 : decode cX9_comeToFirst 5 = .ok (.aload_n 0, 1) := by decide +kernel
theorem dX9_comeToFirst_6 : decode cX9_comeToFirst 6 = .ok (.invokevirtual 35, 3) := by decide +kernel
theorem dX9_comeToFirst_9 : decode cX9_comeToFirst 9 = .ok (.return_, 1) := by decide +kernel
theorem BX9_comeToFirst_0 {d bc bs : Nat} {h : aH} {n : Nat} {Q : aQ} {ar0 : Nat} {f1 : List aV} (h2 : h ar0 = cO 9 f1) (m3 : 5 < f1.length) (k : Rn d bc bs mX9_comeToFirst 5 [some (vR (some ar0))] [] (up h ar0 (cO 9 (f1.set 5 (vI 0)))) n Q) : Rn d (bc) (bs) mX9_comeToFirst 0 [some (vR (some ar0))] [] h n Q := by
  refine Rn_aload_n dX9_comeToFirst_0 rfl rfl rfl ?_
  refine Rn_iconst dX9_comeToFirst_1 rfl ?_
  refine Rn_putfield (ci := 9) (k := 5) dX9_comeToFirst_2 rfl in_9 tyX9_ok nmX9 (Nat.le_of_ble_eq_true rfl) wd_335 rfl (Or.inl rfl) trivial m3 h2 ?_
  exact k
theorem BX9_comeToFirst_5 {d bc bs : Nat} {h : aH} {n : Nat} {Q : aQ} {ar0 : Nat} {f1 : List aV} (h2 : h ar0 = cO 9 f1) (k : Rn d 0 0 mX9_comeToNext 0 [some (vR (some ar0)), none] [] h n (fun v h1 n1 => Rn (d + 1) bc bs mX9_comeToFirst 9 [some (vR (some ar0))] (v.toList ++ []) h1 n1 Q)) : Rn (d + 1) (bc) (bs) mX9_comeToFirst 5 [some (vR (some ar0))] [] h n Q := by
  refine Rn_aload_n dX9_comeToFirst_5 rfl rfl rfl ?_
  exact Rn_callV (ci := 9) (avs := []) (st := []) (bc1 := 0) (bs1 := 0) (bc2 := bc) (bs2 := bs) fx_X9_comeToNext dX9_comeToFirst_6 wd_543 wd_544 wd_545 rfl h2 rfl (Nat.le_of_ble_eq_true rfl) (Nat.le_of_ble_eq_true rfl) (by omega) (by omega) (ls1 := [some (vR (some ar0)), none]) rfl k
theorem BX9_comeToFirst_9 {d bc bs : Nat} {h : aH} {n : Nat} {Q : aQ} {r0 : Option Nat} (k : Q none h n) : Rn d (bc) (bs) mX9_comeToFirst 9 [some (vR r0)] [] h n Q := by
  exact Rn_return rfl dX9_comeToFirst_9 k
theorem dX9_comeToNext_0 : decode cX9_comeToNext 0 = .ok (.iconst 0, 1) := by decide +kernel
theorem dX9_comeToNext_1 : decode cX9_comeToNext 1 = .ok (.istore_n 1, 1) := by decide +kernel
theorem dX9_comeToNext_2 : decode cX9_comeToNext 2 = .ok (.iload_n 1, 1) := by decide +kernel
theorem dX9_comeToNext_3 : decode cX9_comeToNext 3 = .ok (.sipush 300, 3) := by decide +kernel
theorem dX9_comeToNext_6 : decode cX9_comeToNext 6 = .ok (.if_icmp .ge 45, 3) := by decide +kernel
theorem dX9_comeToNext_9 : decode cX9_comeToNext 9 = .ok (.aload_n 0, 1) := by decide +kernel
theorem dX9_comeToNext_10 : decode cX9_comeToNext 10 = .ok (.aload_n 0, 1) := by decide +kernel
theorem dX9_comeToNext_11 : decode cX9_comeToNext 11 = .ok (.getfield 28, 3) := by decide +kernel
theorem dX9_comeToNext_14 : decode cX9_comeToNext 14 = .ok (.invokevirtual 38, 3) := by decide +kernel
theorem dX9_comeToNext_17 : decode cX9_comeToNext 17 = .ok (.bipush 32, 2) := by decide +kernel
theorem dX9_comeToNext_19 : decode cX9_comeToNext 19 = .ok (.if_icmp .eq 16, 3) := by decide +kernel
theorem dX9_comeToNext_22 : decode cX9_comeToNext 22 = .ok (.aload_n 0, 1) := by decide +kernel
theorem dX9_comeToNext_23 : decode cX9_comeToNext 23 = .ok (.aload_n 0, 1) := by decide +kernel
theorem dX9_comeToNext_24 : decode cX9_comeToNext 24 = .ok (.getfield 28, 3) := by decide +kernel
theorem dX9_comeToNext_27 : decode cX9_comeToNext 27 = .ok (.invokevirtual 38, 3) := by decide +kernel
theorem dX9_comeToNext_30 : decode cX9_comeToNext 30 = .ok (.bipush 10, 2) := by decide +kernel
theorem dX9_comeToNext_32 : decode cX9_comeToNext 32 = .ok (.if_icmp .ne 19, 3) := by decide +kernel
theorem dX9_comeToNext_35 : decode cX9_comeToNext 35 = .ok (.aload_n 0, 1) := by decide +kernel
theorem dX9_comeToNext_36 : decode cX9_comeToNext 36 = .ok (.dup, 1) := by decide +kernel
theorem dX9_comeToNext_37 : decode cX9_comeToNext 37 = .ok (.getfield 28, 3) := by decide +kernel
theorem dX9_comeToNext_40 : decode cX9_comeToNext 40 = .ok (.iconst 1, 1) := by decide +kernel
theorem dX9_comeToNext_41 : decode cX9_comeToNext 41 = .ok (.iadd, 1) := by decide +kernel
theorem dX9_comeToNext_42 : decode cX9_comeToNext 42 = .ok (.putfield 28, 3) := by decide +kernel
theorem dX9_comeToNext_45 : decode cX9_comeToNext 45 = .ok (.iinc 1 1, 3) := by decide +kernel
theorem dX9_comeToNext_48 : decode cX9_comeToNext 48 = .ok (.goto (-46), 3) := by decide +kernel
theorem dX9_comeToNext_51 : decode cX9_comeToNext 51 = .ok (.aload_n 0, 1) := by decide +kernel
theorem dX9_comeToNext_52 : decode cX9_comeToNext 52 = .ok (.aload_n 0, 1) := by decide +kernel
theorem dX9_comeToNext_53 : decode cX9_comeToNext 53 = .ok (.getfield 28, 3) := by decide +kernel
theorem dX9_comeToNext_56 : decode cX9_comeToNext 56 = .ok (.putfield 22, 3) := by decide +kernel
theorem dX9_comeToNext_59 : decode cX9_comeToNext 59 = .ok (.aload_n 0, 1) := by decide +kernel
theorem dX9_comeToNext_60 : decode cX9_comeToNext 60 = .ok (.aload_n 0, 1) := by decide +kernel
theorem dX9_comeToNext_61 : decode cX9_comeToNext 61 = .ok (.getfield 22, 3) := by decide +kernel
theorem dX9_comeToNext_64 : decode cX9_comeToNext 64 = .ok (.invokevirtual 38, 3) := by decide +kernel
theorem dX9_comeToNext_67 : decode cX9_comeToNext 67 = .ok (.istore_n 1, 1) := by decide +kernel
theorem dX9_comeToNext_68 : decode cX9_comeToNext 68 = .ok (.iload_n 1, 1) := by decide +kernel
theorem dX9_comeToNext_69 : decode cX9_comeToNext 69 = .ok (.iconst (-1), 1) := by decide +kernel
theorem dX9_comeToNext_70 : decode cX9_comeToNext 70 = .ok (.if_icmp .ne 11, 3) := by decide +kernel
theorem dX9_comeToNext_73 : decode cX9_comeToNext 73 = .ok (.aload_n 0, 1) := by decide +kernel
theorem dX9_comeToNext_74 : decode cX9_comeToNext 74 = .ok (.iconst 0, 1) := by decide +kernel
theorem dX9_comeToNext_75 : decode cX9_comeToNext 75 = .ok (.putfield 19, 3) := by decide +kernel
theorem dX9_comeToNext_78 : decode cX9_comeToNext 78 = .ok (.goto 36, 3) := by decide +kernel
theorem dX9_comeToNext_81 : decode cX9_comeToNext 81 = .ok (.iload_n 1, 1) := by decide +kernel
theorem dX9_comeToNext_82 : decode cX9_comeToNext 82 = .ok (.invokestatic 42, 3) := by decide +kernel
theorem dX9_comeToNext_85 : decode cX9_comeToNext 85 = .ok (.ifCond .eq 10, 3) := by decide +kernel
theorem dX9_comeToNext_88 : decode cX9_comeToNext 88 = .ok (.aload_n 0, 1) := by decide +kernel
theorem dX9_comeToNext_89 : decode cX9_comeToNext 89 = .ok (.invokevirtual 46, 3) := by decide +kernel
theorem dX9_comeToNext_92 : decode cX9_comeToNext 92 = .ok (.goto 22, 3) := by decide +kernel
theorem dX9_comeToNext_95 : decode cX9_comeToNext 95 = .ok (.iload_n 1, 1) := by decide +kernel
theorem dX9_comeToNext_96 : decode cX9_comeToNext 96 = .ok (.invokestatic 49, 3) := by decide +kernel
theorem dX9_comeToNext_99 : decode cX9_comeToNext 99 = .ok (.ifCond .eq 10, 3) := by decide +kernel
theorem dX9_comeToNext_102 : decode cX9_comeToNext 102 = .ok (.aload_n 0, 1) := by decide +kernel
theorem dX9_comeToNext_103 : decode cX9_comeToNext 103 = .ok (.invokevirtual 52, 3) := by decide +kernel
theorem dX9_comeToNext_106 : decode cX9_comeToNext 106 = .ok (.goto 8, 3) := by decide +kernel
theorem dX9_comeToNext_109 : decode cX9_comeToNext 109 = .ok (.aload_n 0, 1) := by decide +kernel
theorem dX9_comeToNext_110 : decode cX9_comeToNext 110 = .ok (.iload_n 1, 1) := by decide +kernel
theorem dX9_comeToNext_111 : decode cX9_comeToNext 111 = .ok (.invokevirtual 55, 3) := by decide +kernel
theorem dX9_comeToNext_114 : decode cX9_comeToNext 114 = .ok (.return_, 1) := by decide +kernel
theorem BX9_comeToNext_0 {d bc bs : Nat} {h : aH} {n : Nat} {Q : aQ} {r0 : Option Nat} {l1 : Option aV} (k : Rn d bc bs mX9_comeToNext 2 [some (vR r0), some (vI 0)] [] h n Q) : Rn d (bc) (bs) mX9_comeToNext 0 [some (vR r0), l1] [] h n Q := by
  refine Rn_iconst dX9_comeToNext_0 rfl ?_
  refine Rn_istore_n dX9_comeToNext_1 rfl (Nat.le_of_ble_eq_true rfl) rfl rfl ?_
  exact k
theorem BX9_comeToNext_2 {d bc bs : Nat} {h : aH} {n : Nat} {Q : aQ} {r0 : Option Nat} {x1 : Int} (kt : 300 ≤ x1 → Rn d bc bs mX9_comeToNext 51 [some (vR r0), some (vI x1)] [] h n Q) (kf : x1 < 300 → Rn d bc bs mX9_comeToNext 9 [some (vR r0), some (vI x1)] [] h n Q) : Rn d (bc) (bs) mX9_comeToNext 2 [some (vR r0), some (vI x1)] [] h n Q := by
  refine Rn_iload_n dX9_comeToNext_2 rfl rfl ?_
  refine Rn_sipush dX9_comeToNext_3 rfl ?_
  refine Rn_icmpge (tgt := 51) dX9_comeToNext_6 rfl ?_ ?_
  · exact kt
  · exact kf
theorem BX9_comeToNext_9 {d bc bs : Nat} {h : aH} {n : Nat} {Q : aQ} {ar0 : Nat} {x1 v3 : Int} {f1 : List aV} (h2 : h ar0 = cO 9 f1) (g4 : f1[5]? = some (vI v3)) (k : Rn d 0 0 mX9_byteAt 0 [some (vR (some ar0)), some (vI v3)] [] h n (fun v h1 n1 => Rn (d + 1) bc bs mX9_comeToNext 17 [some (vR (some ar0)), some (vI x1)] (v.toList ++ []) h1 n1 Q)) : Rn (d + 1) (bc) (bs) mX9_comeToNext 9 [some (vR (some ar0)), some (vI x1)] [] h n Q := by
  refine Rn_aload_n dX9_comeToNext_9 rfl rfl rfl ?_
  refine Rn_aload_n dX9_comeToNext_10 rfl rfl rfl ?_
  refine Rn_getfield (ci := 9) (k := 5) dX9_comeToNext_11 rfl in_9 (Nat.le_of_ble_eq_true rfl) wd_335 rfl h2 g4 ?_
  exact Rn_callV (ci := 9) (avs := [vI v3]) (st := []) (bc1 := 0) (bs1 := 0) (bc2 := bc) (bs2 := bs) fx_X9_byteAt dX9_comeToNext_14 wd_547 wd_549 wd_0 rfl h2 rfl (Nat.le_of_ble_eq_true rfl) (Nat.le_of_ble_eq_true rfl) (by omega) (by omega) (ls1 := [some (vR (some ar0)), some (vI v3)]) rfl k
theorem BX9_comeToNext_17 {d bc bs : Nat} {h : aH} {n : Nat} {Q : aQ} {r0 : Option Nat} {x1 s0 : Int} (kt : s0 = 32 → Rn d bc bs mX9_comeToNext 35 [some (vR r0), some (vI x1)] [] h n Q) (kf : s0 ≠ 32 → Rn d bc bs mX9_comeToNext 22 [some (vR r0), some (vI x1)] [] h n Q) : Rn d (bc) (bs) mX9_comeToNext 17 [some (vR r0), some (vI x1)] [vI s0] h n Q := by
  refine Rn_bipush dX9_comeToNext_17 rfl ?_
  refine Rn_icmpeq (tgt := 35) dX9_comeToNext_19 rfl ?_ ?_
  · exact kt
  · exact kf
theorem BX9_comeToNext_22 {d bc bs : Nat} {h : aH} {n : Nat} {Q : aQ} {ar0 : Nat} {x1 v3 : Int} {f1 : List aV} (h2 : h ar0 = cO 9 f1) (g4 : f1[5]? = some (vI v3)) (k : Rn d 0 0 mX9_byteAt 0 [some (vR (some ar0)), some (vI v3)] [] h n (fun v h1 n1 => Rn (d + 1) bc bs mX9_comeToNext 30 [some (vR (some ar0)), some (vI x1)] (v.toList ++ []) h1 n1 Q)) : Rn (d + 1) (bc) (bs) mX9_comeToNext 22 [some (vR (some ar0)), some (vI x1)] [] h n Q := by
  refine Rn_aload_n dX9_comeToNext_22 rfl rfl rfl ?_
  refine Rn_aload_n dX9_comeToNext_23 rfl rfl rfl ?_
  refine Rn_getfield (ci := 9) (k := 5) dX9_comeToNext_24 rfl in_9 (Nat.le_of_ble_eq_true rfl) wd_335 rfl h2 g4 ?_
  exact Rn_callV (ci := 9) (avs := [vI v3]) (st := []) (bc1 := 0) (bs1 := 0) (bc2 := bc) (bs2 := bs) fx_X9_byteAt dX9_comeToNext_27 wd_547 wd_549 wd_0 rfl h2 rfl (Nat.le_of_ble_eq_true rfl) (Nat.le_of_ble_eq_true rfl) (by omega) (by omega) (ls1 := [some (vR (some ar0)), some (vI v3)]) rfl k
theorem BX9_comeToNext_30 {d bc bs : Nat} {h : aH} {n : Nat} {Q : aQ} {r0 : Option Nat} {x1 s0 : Int} (kt : s0 ≠ 10 → Rn d bc bs mX9_comeToNext 51 [some (vR r0), some (vI x1)] [] h n Q) (kf : s0 = 10 → Rn d bc bs mX9_comeToNext 35 [some (vR r0), some (vI x1)] [] h n Q) : Rn d (bc) (bs) mX9_comeToNext 30 [some (vR r0), some (vI x1)] [vI s0] h n Q := by
  refine Rn_bipush dX9_comeToNext_30 rfl ?_
  refine Rn_icmpne (tgt := 51) dX9_comeToNext_32 rfl ?_ ?_
  · exact kt
  · exact kf
theorem BX9_comeToNext_35 {d bc bs : Nat} {h : aH} {n : Nat} {Q : aQ} {ar0 : Nat} {x1 v3 : Int} {f1 : List aV} (h2 : h ar0 = cO 9 f1) (g4 : f1[5]? = some (vI v3)) (b5 : -2147483648 ≤ v3 + 1 ∧ v3 + 1 < 2147483648) (m6 : 5 < f1.length) (k : Rn d bc bs mX9_comeToNext 45 [some (vR (some ar0)), some (vI x1)] [] (up h ar0 (cO 9 (f1.set 5 (vI (v3 + 1))))) n Q) : Rn d (bc) (bs) mX9_comeToNext 35 [some (vR (some ar0)), some (vI x1)] [] h n Q := by
  refine Rn_aload_n dX9_comeToNext_35 rfl rfl rfl ?_
  refine Rn_dup dX9_comeToNext_36 rfl ?_
  refine Rn_getfield (ci := 9) (k := 5) dX9_comeToNext_37 rfl in_9 (Nat.le_of_ble_eq_true rfl) wd_335 rfl h2 g4 ?_
  refine Rn_iconst dX9_comeToNext_40 rfl ?_
  refine Rn_iadd dX9_comeToNext_41 ?_
  rw [w32_id b5.1 b5.2]
  refine Rn_putfield (ci := 9) (k := 5) dX9_comeToNext_42 rfl in_9 tyX9_ok nmX9 (Nat.le_of_ble_eq_true rfl) wd_335 rfl (Or.inl rfl) trivial m6 h2 ?_
  exact k
theorem BX9_comeToNext_45 {d bc bs : Nat} {h : aH} {n : Nat} {Q : aQ} {r0 : Option Nat} {x1 : Int} (b1 : -2147483648 ≤ x1 + 1 ∧ x1 + 1 < 2147483648) (k : Rn d bc bs mX9_comeToNext 2 [some (vR r0), some (vI (x1 + 1))] [] h n Q) : Rn d (bc) (bs) mX9_comeToNext 45 [some (vR r0), some (vI x1)] [] h n Q := by
  refine Rn_iinc dX9_comeToNext_45 rfl (Nat.le_of_ble_eq_true rfl) rfl rfl rfl ?_
  rw [w32_id b1.1 b1.2]
  refine Rn_goto (tgt := 2) dX9_comeToNext_48 rfl ?_
  exact k
theorem BX9_comeToNext_51 {d bc bs : Nat} {h : aH} {n : Nat} {Q : aQ} {ar0 : Nat} {x1 v3 : Int} {f1 : List aV} (h2 : h ar0 = cO 9 f1) (g4 : f1[5]? = some (vI v3)) (m5 : 3 < f1.length) (k : Rn d bc bs mX9_comeToNext 59 [some (vR (some ar0)), some (vI x1)] [] (up h ar0 (cO 9 (f1.set 3 (vI v3)))) n Q) : Rn d (bc) (bs) mX9_comeToNext 51 [some (vR (some ar0)), some (vI x1)] [] h n Q := by
  refine Rn_aload_n dX9_comeToNext_51 rfl rfl rfl ?_
  refine Rn_aload_n dX9_comeToNext_52 rfl rfl rfl ?_
  refine Rn_getfield (ci := 9) (k := 5) dX9_comeToNext_53 rfl in_9 (Nat.le_of_ble_eq_true rfl) wd_335 rfl h2 g4 ?_
  refine Rn_putfield (ci := 9) (k := 3) dX9_comeToNext_56 rfl in_9 tyX9_ok nmX9 (Nat.le_of_ble_eq_true rfl) wd_331 rfl (Or.inl rfl) trivial m5 h2 ?_
  exact k
theorem BX9_comeToNext_59 {d bc bs : Nat} {h : aH} {n : Nat} {Q : aQ} {ar0 : Nat} {x1 v3 : Int} {f1 : List aV} (h2 : h ar0 = cO 9 f1) (g4 : f1[3]? = some (vI v3)) (k : Rn d 0 0 mX9_byteAt 0 [some (vR (some ar0)), some (vI v3)] [] h n (fun v h1 n1 => Rn (d + 1) bc bs mX9_comeToNext 67 [some (vR (some ar0)), some (vI x1)] (v.toList ++ []) h1 n1 Q)) : Rn (d + 1) (bc) (bs) mX9_comeToNext 59 [some (vR (some ar0)), some (vI x1)] [] h n Q := by
  refine Rn_aload_n dX9_comeToNext_59 rfl rfl rfl ?_
  refine Rn_aload_n dX9_comeToNext_60 rfl rfl rfl ?_
  refine Rn_getfield (ci := 9) (k := 3) dX9_comeToNext_61 rfl in_9 (Nat.le_of_ble_eq_true rfl) wd_331 rfl h2 g4 ?_
  exact Rn_callV (ci := 9) (avs := [vI v3]) (st := []) (bc1 := 0) (bs1 := 0) (bc2 := bc) (bs2 := bs) fx_X9_byteAt dX9_comeToNext_64 wd_547 wd_549 wd_0 rfl h2 rfl (Nat.le_of_ble_eq_true rfl) (Nat.le_of_ble_eq_true rfl) (by omega) (by omega) (ls1 := [some (vR (some ar0)), some (vI v3)]) rfl k
theorem BX9_comeToNext_67 {d bc bs : Nat} {h : aH} {n : Nat} {Q : aQ} {r0 : Option Nat} {x1 s0 : Int} (kt : s0 ≠ (-1) → Rn d bc bs mX9_comeToNext 81 [some (vR r0), some (vI s0)] [] h n Q) (kf : s0 = (-1) → Rn d bc bs mX9_comeToNext 73 [some (vR r0), some (vI s0)] [] h n Q) : Rn d (bc) (bs) mX9_comeToNext 67 [some (vR r0), some (vI x1)] [vI s0] h n Q := by
  refine Rn_istore_n dX9_comeToNext_67 rfl (Nat.le_of_ble_eq_true rfl) rfl rfl ?_
  refine Rn_iload_n dX9_comeToNext_68 rfl rfl ?_
  refine Rn_iconst dX9_comeToNext_69 rfl ?_
  refine Rn_icmpne (tgt := 81) dX9_comeToNext_70 rfl ?_ ?_
  · exact kt
  · exact kf
theorem BX9_comeToNext_73 {d bc bs : Nat} {h : aH} {n : Nat} {Q : aQ} {ar0 : Nat} {x1 : Int} {f1 : List aV} (h2 : h ar0 = cO 9 f1) (m3 : 2 < f1.length) (k : Rn d bc bs mX9_comeToNext 78 [some (vR (some ar0)), some (vI x1)] [] (up h ar0 (cO 9 (f1.set 2 (vI 0)))) n Q) : Rn d (bc) (bs) mX9_comeToNext 73 [some (vR (some ar0)), some (vI x1)] [] h n Q := by
  refine Rn_aload_n dX9_comeToNext_73 rfl rfl rfl ?_
  refine Rn_iconst dX9_comeToNext_74 rfl ?_
  refine Rn_putfield (ci := 9) (k := 2) dX9_comeToNext_75 rfl in_9 tyX9_ok nmX9 (Nat.le_of_ble_eq_true rfl) wd_329 rfl (Or.inl rfl) trivial m3 h2 ?_
  exact k
theorem BX9_comeToNext_78 {d bc bs : Nat} {h : aH} {n : Nat} {Q : aQ} {r0 : Option Nat} {x1 : Int} (k : Q none h n) : Rn d (bc) (bs) mX9_comeToNext 78 [some (vR r0), some (vI x1)] [] h n Q := by
  refine Rn_goto (tgt := 114) dX9_comeToNext_78 rfl ?_
  exact Rn_return rfl dX9_comeToNext_114 k
theorem BX9_comeToNext_81 {d bc bs : Nat} {h : aH} {n : Nat} {Q : aQ} {r0 : Option Nat} {x1 : Int} (k : Rn d 0 0 mX9_isDigit 0 [some (vI x1)] [] h n (fun v h1 n1 => Rn (d + 1) bc bs mX9_comeToNext 85 [some (vR r0), some (vI x1)] (v.toList ++ []) h1 n1 Q)) : Rn (d + 1) (bc) (bs) mX9_comeToNext 81 [some (vR r0), some (vI x1)] [] h n Q := by
  refine Rn_iload_n dX9_comeToNext_81 rfl rfl ?_
  exact Rn_callS (avs := [vI x1]) (st := []) (bc1 := 0) (bs1 := 0) (bc2 := bc) (bs2 := bs) fx_X9_isDigit dX9_comeToNext_82 (Or.inl wd_551) wd_552 rfl (Nat.le_of_ble_eq_true rfl) (Nat.le_of_ble_eq_true rfl) (by omega) (by omega) (ls1 := [some (vI x1)]) rfl k
theorem BX9_comeToNext_85 {d bc bs : Nat} {h : aH} {n : Nat} {Q : aQ} {r0 : Option Nat} {x1 s0 : Int} (kt : s0 = 0 → Rn d bc bs mX9_comeToNext 95 [some (vR r0), some (vI x1)] [] h n Q) (kf : s0 ≠ 0 → Rn d bc bs mX9_comeToNext 88 [some (vR r0), some (vI x1)] [] h n Q) : Rn d (bc) (bs) mX9_comeToNext 85 [some (vR r0), some (vI x1)] [vI s0] h n Q := by
  refine Rn_ifeq (tgt := 95) dX9_comeToNext_85 rfl ?_ ?_
  · exact kt
  · exact kf
theorem BX9_comeToNext_88 {d bc bs : Nat} {h : aH} {n : Nat} {Q : aQ} {ar0 : Nat} {x1 : Int} {f1 : List aV} (h2 : h ar0 = cO 9 f1) (k : Rn d 0 0 mX9_readNumber 0 [some (vR (some ar0)), none] [] h n (fun v h1 n1 => Rn (d + 1) bc bs mX9_comeToNext 92 [some (vR (some ar0)), some (vI x1)] (v.toList ++ []) h1 n1 Q)) : Rn (d + 1) (bc) (bs) mX9_comeToNext 88 [some (vR (some ar0)), some (vI x1)] [] h n Q := by
  refine Rn_aload_n dX9_comeToNext_88 rfl rfl rfl ?_
  exact Rn_callV (ci := 9) (avs := []) (st := []) (bc1 := 0) (bs1 := 0) (bc2 := bc) (bs2 := bs) fx_X9_readNumber dX9_comeToNext_89 wd_554 wd_556 wd_1 rfl h2 rfl (Nat.le_of_ble_eq_true rfl) (Nat.le_of_ble_eq_true rfl) (by omega) (by omega) (ls1 := [some (vR (some ar0)), none]) rfl k
theorem BX9_comeToNext_92 {d bc bs : Nat} {h : aH} {n : Nat} {Q : aQ} {r0 : Option Nat} {x1 : Int} (k : Q none h n) : Rn d (bc) (bs) mX9_comeToNext 92 [some (vR r0), some (vI x1)] [] h n Q := by
  refine Rn_goto (tgt := 114) dX9_comeToNext_92 rfl ?_
  exact Rn_return rfl dX9_comeToNext_114 k
theorem BX9_comeToNext_95 {d bc bs : Nat} {h : aH} {n : Nat} {Q : aQ} {r0 : Option Nat} {x1 : Int} (k : Rn d 0 0 mX9_isLetter 0 [some (vI x1)] [] h n (fun v h1 n1 => Rn (d + 1) bc bs mX9_comeToNext 99 [some (vR r0), some (vI x1)] (v.toList ++ []) h1 n1 Q)) : Rn (d + 1) (bc) (bs) mX9_comeToNext 95 [some (vR r0), some (vI x1)] [] h n Q := by
  refine Rn_iload_n dX9_comeToNext_95 rfl rfl ?_
  exact Rn_callS (avs := [vI x1]) (st := []) (bc1 := 0) (bs1 := 0) (bc2 := bc) (bs2 := bs) fx_X9_isLetter dX9_comeToNext_96 (Or.inl wd_561) wd_562 rfl (Nat.le_of_ble_eq_true rfl) (Nat.le_of_ble_eq_true rfl) (by omega) (by omega) (ls1 := [some (vI x1)]) rfl k
theorem BX9_comeToNext_99 {d bc bs : Nat} {h : aH} {n : Nat} {Q : aQ} {r0 : Option Nat} {x1 s0 : Int} (kt : s0 = 0 → Rn d bc bs mX9_comeToNext 109 [some (vR r0), some (vI x1)] [] h n Q) (kf : s0 ≠ 0 → Rn d bc bs mX9_comeToNext 102 [some (vR r0), some (vI x1)] [] h n Q) : Rn d (bc) (bs) mX9_comeToNext 99 [some (vR r0), some (vI x1)] [vI s0] h n Q := by
  refine Rn_ifeq (tgt := 109) dX9_comeToNext_99 rfl ?_ ?_
  · exact kt
  · exact kf
theorem BX9_comeToNext_102 {d bc bs : Nat} {h : aH} {n : Nat} {Q : aQ} {ar0 : Nat} {x1 : Int} {f1 : List aV} (h2 : h ar0 = cO 9 f1) (k : Rn d 0 0 mX9_readWord 0 [some (vR (some ar0)), none, none, none, none] [] h n (fun v h1 n1 => Rn (d + 1) bc bs mX9_comeToNext 106 [some (vR (some ar0)), some (vI x1)] (v.toList ++ []) h1 n1 Q)) : Rn (d + 1) (bc) (bs) mX9_comeToNext 102 [some (vR (some ar0)), some (vI x1)] [] h n Q := by
  refine Rn_aload_n dX9_comeToNext_102 rfl rfl rfl ?_
  exact Rn_callV (ci := 9) (avs := []) (st := []) (bc1 := 0) (bs1 := 0) (bc2 := bc) (bs2 := bs) fx_X9_readWord dX9_comeToNext_103 wd_564 wd_566 wd_2 rfl h2 rfl (Nat.le_of_ble_eq_true rfl) (Nat.le_of_ble_eq_true rfl) (by omega) (by omega) (ls1 := [some (vR (some ar0)), none, none, none, none]) rfl k
theorem BX9_comeToNext_106 {d bc bs : Nat} {h : aH} {n : Nat} {Q : aQ} {r0 : Option Nat} {x1 : Int} (k : Q none h n) : Rn d (bc) (bs) mX9_comeToNext 106 [some (vR r0), some (vI x1)] [] h n Q := by
  refine Rn_goto (tgt := 114) dX9_comeToNext_106 rfl ?_
  exact Rn_return rfl dX9_comeToNext_114 k
theorem BX9_comeToNext_109 {d bc bs : Nat} {h : aH} {n : Nat} {Q : aQ} {ar0 : Nat} {x1 : Int} {f1 : List aV} (h2 : h ar0 = cO 9 f1) (k : Rn d 0 0 mX9_readSign 0 [some (vR (some ar0)), some (vI x1), none] [] h n (fun v h1 n1 => Rn (d + 1) bc bs mX9_comeToNext 114 [some (vR (some ar0)), some (vI x1)] (v.toList ++ []) h1 n1 Q)) : Rn (d + 1) (bc) (bs) mX9_comeToNext 109 [some (vR (some ar0)), some (vI x1)] [] h n Q := by
  refine Rn_aload_n dX9_comeToNext_109 rfl rfl rfl ?_
  refine Rn_iload_n dX9_comeToNext_110 rfl rfl ?_
  exact Rn_callV (ci := 9) (avs := [vI x1]) (st := []) (bc1 := 0) (bs1 := 0) (bc2 := bc) (bs2 := bs) fx_X9_readSign dX9_comeToNext_111 wd_617 wd_619 wd_3 rfl h2 rfl (Nat.le_of_ble_eq_true rfl) (Nat.le_of_ble_eq_true rfl) (by omega) (by omega) (ls1 := [some (vR (some ar0)), some (vI x1), none]) rfl k
theorem BX9_comeToNext_114 {d bc bs : Nat} {h : aH} {n : Nat} {Q : aQ} {r0 : Option Nat} {x1 : Int} (k : Q none h n) : Rn d (bc) (bs) mX9_comeToNext 114 [some (vR r0), some (vI x1)] [] h n Q := by
  exact Rn_return rfl dX9_comeToNext_114 k
theorem dX9_byteAt_0 : decode cX9_byteAt 0 = .ok (.iload_n 1, 1) := by decide +kernel
theorem dX9_byteAt_1 : decode cX9_byteAt 1 = .ok (.ifCond .lt 29, 3) := by decide +kernel
theorem dX9_byteAt_4 : decode cX9_byteAt 4 = .ok (.iload_n 1, 1) := by decide +kernel
theorem dX9_byteAt_5 : decode cX9_byteAt 5 = .ok (.aload_n 0, 1) := by decide +kernel
theorem dX9_byteAt_6 : decode cX9_byteAt 6 = .ok (.getfield 15, 3) := by decide +kernel
theorem dX9_byteAt_9 : decode cX9_byteAt 9 = .ok (.if_icmp .ge 21, 3) := by decide +kernel
theorem dX9_byteAt_12 : decode cX9_byteAt 12 = .ok (.iload_n 1, 1) := by decide +kernel
theorem dX9_byteAt_13 : decode cX9_byteAt 13 = .ok (.aload_n 0, 1) := by decide +kernel
theorem dX9_byteAt_14 : decode cX9_byteAt 14 = .ok (.getfield 9, 3) := by decide +kernel
theorem dX9_byteAt_17 : decode cX9_byteAt 17 = .ok (.arraylength, 1) := by decide +kernel
theorem dX9_byteAt_18 : decode cX9_byteAt 18 = .ok (.if_icmp .ge 12, 3) := by decide +kernel
theorem dX9_byteAt_21 : decode cX9_byteAt 21 = .ok (.aload_n 0, 1) := by decide +kernel
theorem dX9_byteAt_22 : decode cX9_byteAt 22 = .ok (.getfield 9, 3) := by decide +kernel
theorem dX9_byteAt_25 : decode cX9_byteAt 25 = .ok (.iload_n 1, 1) := by decide +kernel
theorem dX9_byteAt_26 : decode cX9_byteAt 26 = .ok (.iaload, 1) := by decide +kernel
theorem dX9_byteAt_27 : decode cX9_byteAt 27 = .ok (.goto 4, 3) := by decide +kernel
theorem dX9_byteAt_30 : decode cX9_byteAt 30 = .ok (.iconst (-1), 1) := by decide +kernel
theorem dX9_byteAt_31 : decode cX9_byteAt 31 = .ok (.ireturn, 1) := by decide +kernel
theorem BX9_byteAt_0 {d bc bs : Nat} {h : aH} {n : Nat} {Q : aQ} {r0 : Option Nat} {x1 : Int} (kt : x1 < 0 → Rn d bc bs mX9_byteAt 30 [some (vR r0), some (vI x1)] [] h n Q) (kf : 0 ≤ x1 → Rn d bc bs mX9_byteAt 4 [some (vR r0), some (vI x1)] [] h n Q) : Rn d (bc) (bs) mX9_byteAt 0 [some (vR r0), some (vI x1)] [] h n Q := by
  refine Rn_iload_n dX9_byteAt_0 rfl rfl ?_
  refine Rn_iflt (tgt := 30) dX9_byteAt_1 rfl ?_ ?_
  · exact kt
  · exact kf
theorem BX9_byteAt_4 {d bc bs : Nat} {h : aH} {n : Nat} {Q : aQ} {ar0 : Nat} {x1 v3 : Int} {f1 : List aV} (h2 : h ar0 = cO 9 f1) (g4 : f1[1]? = some (vI v3)) (kt : v3 ≤ x1 → Rn d bc bs mX9_byteAt 30 [some (vR (some ar0)), some (vI x1)] [] h n Q) (kf : x1 < v3 → Rn d bc bs mX9_byteAt 12 [some (vR (some ar0)), some (vI x1)] [] h n Q) : Rn d (bc) (bs) mX9_byteAt 4 [some (vR (some ar0)), some (vI x1)] [] h n Q := by
  refine Rn_iload_n dX9_byteAt_4 rfl rfl ?_
  refine Rn_aload_n dX9_byteAt_5 rfl rfl rfl ?_
  refine Rn_getfield (ci := 9) (k := 1) dX9_byteAt_6 rfl in_9 (Nat.le_of_ble_eq_true rfl) wd_327 rfl h2 g4 ?_
  refine Rn_icmpge (tgt := 30) dX9_byteAt_9 rfl ?_ ?_
  · exact kt
  · exact kf
theorem BX9_byteAt_12 {d bc bs : Nat} {h : aH} {n : Nat} {Q : aQ} {ar0 at3 : Nat} {x1 : Int} {f1 : List aV} {w5 : List Int} (h2 : h ar0 = cO 9 f1) (g4 : f1[0]? = some (vR (some at3))) (h6 : h at3 = cI w5) (y7 : w5.length < 2147483648) (z8 : at3 ≠ 0) (kt : (w5.length : Int) ≤ x1 → Rn d bc bs mX9_byteAt 30 [some (vR (some ar0)), some (vI x1)] [] h n Q) (kf : x1 < (w5.length : Int) → Rn d bc bs mX9_byteAt 21 [some (vR (some ar0)), some (vI x1)] [] h n Q) : Rn d (bc) (bs) mX9_byteAt 12 [some (vR (some ar0)), some (vI x1)] [] h n Q := by
  refine Rn_iload_n dX9_byteAt_12 rfl rfl ?_
  refine Rn_aload_n dX9_byteAt_13 rfl rfl rfl ?_
  refine Rn_getfield (ci := 9) (k := 0) dX9_byteAt_14 rfl in_9 (Nat.le_of_ble_eq_true rfl) wd_326 rfl h2 g4 ?_
  refine Rn_alenI dX9_byteAt_17 z8 h6 y7 ?_
  refine Rn_icmpge (tgt := 30) dX9_byteAt_18 rfl ?_ ?_
  · exact kt
  · exact kf
theorem BX9_byteAt_21 {d bc bs : Nat} {h : aH} {n : Nat} {Q : aQ} {ar0 at3 : Nat} {x1 v7 : Int} {f1 : List aV} {w5 : List Int} (h2 : h ar0 = cO 9 f1) (g4 : f1[0]? = some (vR (some at3))) (h6 : h at3 = cI w5) (i8 : 0 ≤ x1) (g9 : w5[(x1 : Int).toNat]? = some v7) (k : Q (some (vI v7)) h n) : Rn d (bc) (bs) mX9_byteAt 21 [some (vR (some ar0)), some (vI x1)] [] h n Q := by
  refine Rn_aload_n dX9_byteAt_21 rfl rfl rfl ?_
  refine Rn_getfield (ci := 9) (k := 0) dX9_byteAt_22 rfl in_9 (Nat.le_of_ble_eq_true rfl) wd_326 rfl h2 g4 ?_
  refine Rn_iload_n dX9_byteAt_25 rfl rfl ?_
  refine Rn_iaload dX9_byteAt_26 h6 i8 g9 ?_
  refine Rn_goto (tgt := 31) dX9_byteAt_27 rfl ?_
  exact Rn_ireturn rfl dX9_byteAt_31 k
theorem BX9_byteAt_30 {d bc bs : Nat} {h : aH} {n : Nat} {Q : aQ} {r0 : Option Nat} {x1 : Int} (k : Q (some (vI (-1))) h n) : Rn d (bc) (bs) mX9_byteAt 30 [some (vR r0), some (vI x1)] [] h n Q := by
  refine Rn_iconst dX9_byteAt_30 rfl ?_
  exact Rn_ireturn rfl dX9_byteAt_31 k
theorem dX9_isDigit_0 : decode cX9_isDigit 0 = .ok (.iload_n 0, 1) := by decide +kernel
theorem dX9_isDigit_1 : decode cX9_isDigit 1 = .ok (.bipush 48, 2) := by decide +kernel
theorem dX9_isDigit_3 : decode cX9_isDigit 3 = .ok (.if_icmp .lt 13, 3) := by decide +kernel
theorem dX9_isDigit_6 : decode cX9_isDigit 6 = .ok (.iload_n 0, 1) := by decide +kernel
theorem dX9_isDigit_7 : decode cX9_isDigit 7 = .ok (.bipush 57, 2) := by decide +kernel
theorem dX9_isDigit_9 : decode cX9_isDigit 9 = .ok (.if_icmp .gt 7, 3) := by decide +kernel
theorem dX9_isDigit_12 : decode cX9_isDigit 12 = .ok (.iconst 1, 1) := by decide +kernel
theorem dX9_isDigit_13 : decode cX9_isDigit 13 = .ok (.goto 4, 3) := by decide +kernel
theorem dX9_isDigit_16 : decode cX9_isDigit 16 = .ok (.iconst 0, 1) := by decide +kernel
theorem dX9_isDigit_17 : decode cX9_isDigit 17 = .ok (.ireturn, 1) := by decide +kernel
theorem BX9_isDigit_0 {d bc bs : Nat} {h : aH} {n : Nat} {Q : aQ} {x0 : Int} (kt : x0 < 48 → Rn d bc bs mX9_isDigit 16 [some (vI x0)] [] h n Q) (kf : 48 ≤ x0 → Rn d bc bs mX9_isDigit 6 [some (vI x0)] [] h n Q) : Rn d (bc) (bs) mX9_isDigit 0 [some (vI x0)] [] h n Q := by
  refine Rn_iload_n dX9_isDigit_0 rfl rfl ?_
  refine Rn_bipush dX9_isDigit_1 rfl ?_
  refine Rn_icmplt (tgt := 16) dX9_isDigit_3 rfl ?_ ?_
  · exact kt
  · exact kf
theorem BX9_isDigit_6 {d bc bs : Nat} {h : aH} {n : Nat} {Q : aQ} {x0 : Int} (kt : 57 < x0 → Rn d bc bs mX9_isDigit 16 [some (vI x0)] [] h n Q) (kf : x0 ≤ 57 → Rn d bc bs mX9_isDigit 12 [some (vI x0)] [] h n Q) : Rn d (bc) (bs) mX9_isDigit 6 [some (vI x0)] [] h n Q := by
  refine Rn_iload_n dX9_isDigit_6 rfl rfl ?_
  refine Rn_bipush dX9_isDigit_7 rfl ?_
  refine Rn_icmpgt (tgt := 16) dX9_isDigit_9 rfl ?_ ?_
  · exact kt
  · exact kf
theorem BX9_isDigit_12 {d bc bs : Nat} {h : aH} {n : Nat} {Q : aQ} {x0 : Int} (k : Q (some (vI 1)) h n) : Rn d (bc) (bs) mX9_isDigit 12 [some (vI x0)] [] h n Q := by
  refine Rn_iconst dX9_isDigit_12 rfl ?_
  refine Rn_goto (tgt := 17) dX9_isDigit_13 rfl ?_
  exact Rn_zreturn rfl dX9_isDigit_17 (by decide) k
theorem BX9_isDigit_16 {d bc bs : Nat} {h : aH} {n : Nat} {Q : aQ} {x0 : Int} (k : Q (some (vI 0)) h n) : Rn d (bc) (bs) mX9_isDigit 16 [some (vI x0)] [] h n Q := by
  refine Rn_iconst dX9_isDigit_16 rfl ?_
  exact Rn_zreturn rfl dX9_isDigit_17 (by decide) k
theorem dX9_isLetter_0 : decode cX9_isLetter 0 = .ok (.iload_n 0, 1) := by decide +kernel
theorem dX9_isLetter_1 : decode cX9_isLetter 1 = .ok (.bipush 97, 2) := by decide +kernel
theorem dX9_isLetter_3 : decode cX9_isLetter 3 = .ok (.if_icmp .lt 9, 3) := by decide +kernel
theorem dX9_isLetter_6 : decode cX9_isLetter 6 = .ok (.iload_n 0, 1) := by decide +kernel
theorem dX9_isLetter_7 : decode cX9_isLetter 7 = .ok (.bipush 122, 2) := by decide +kernel
theorem dX9_isLetter_9 : decode cX9_isLetter 9 = .ok (.if_icmp .le 15, 3) := by decide +kernel
theorem dX9_isLetter_12 : decode cX9_isLetter 12 = .ok (.iload_n 0, 1) := by decide +kernel
theorem dX9_isLetter_13 : decode cX9_isLetter 13 = .ok (.bipush 65, 2) := by decide +kernel
theorem dX9_isLetter_15 : decode cX9_isLetter 15 = .ok (.if_icmp .lt 13, 3) := by decide +kernel
theorem dX9_isLetter_18 : decode cX9_isLetter 18 = .ok (.iload_n 0, 1) := by decide +kernel
theorem dX9_isLetter_19 : decode cX9_isLetter 19 = .ok (.bipush 90, 2) := by decide +kernel
theorem dX9_isLetter_21 : decode cX9_isLetter 21 = .ok (.if_icmp .gt 7, 3) := by decide +kernel
theorem dX9_isLetter_24 : decode cX9_isLetter 24 = .ok (.iconst 1, 1) := by decide +kernel
theorem dX9_isLetter_25 : decode cX9_isLetter 25 = .ok (.goto 4, 3) := by decide +kernel
theorem dX9_isLetter_28 : decode cX9_isLetter 28 = .ok (.iconst 0, 1) := by decide +kernel
theorem dX9_isLetter_29 : decode cX9_isLetter 29 = .ok (.ireturn, 1) := by decide +kernel
theorem BX9_isLetter_0 {d bc bs : Nat} {h : aH} {n : Nat} {Q : aQ} {x0 : Int} (kt : x0 < 97 → Rn d bc bs mX9_isLetter 12 [some (vI x0)] [] h n Q) (kf : 97 ≤ x0 → Rn d bc bs mX9_isLetter 6 [some (vI x0)] [] h n Q) : Rn d (bc) (bs) mX9_isLetter 0 [some (vI x0)] [] h n Q := by
  refine Rn_iload_n dX9_isLetter_0 rfl rfl ?_
  refine Rn_bipush dX9_isLetter_1 rfl ?_
  refine Rn_icmplt (tgt := 12) dX9_isLetter_3 rfl ?_ ?_
  · exact kt
  · exact kf
theorem BX9_isLetter_6 {d bc bs : Nat} {h : aH} {n : Nat} {Q : aQ} {x0 : Int} (kt : x0 ≤ 122 → Rn d bc bs mX9_isLetter 24 [some (vI x0)] [] h n Q) (kf : 122 < x0 → Rn d bc bs mX9_isLetter 12 [some (vI x0)] [] h n Q) : Rn d (bc) (bs) mX9_isLetter 6 [some (vI x0)] [] h n Q := by
  refine Rn_iload_n dX9_isLetter_6 rfl rfl ?_
  refine Rn_bipush dX9_isLetter_7 rfl ?_
  refine Rn_icmple (tgt := 24) dX9_isLetter_9 rfl ?_ ?_
  · exact kt
  · exact kf
theorem BX9_isLetter_12 {d bc bs : Nat} {h : aH} {n : Nat} {Q : aQ} {x0 : Int} (kt : x0 < 65 → Rn d bc bs mX9_isLetter 28 [some (vI x0)] [] h n Q) (kf : 65 ≤ x0 → Rn d bc bs mX9_isLetter 18 [some (vI x0)] [] h n Q) : Rn d (bc) (bs) mX9_isLetter 12 [some (vI x0)] [] h n Q := by
  refine Rn_iload_n dX9_isLetter_12 rfl rfl ?_
  refine Rn_bipush dX9_isLetter_13 rfl ?_
  refine Rn_icmplt (tgt := 28) dX9_isLetter_15 rfl ?_ ?_
  · exact kt
  · exact kf
theorem BX9_isLetter_18 {d bc bs : Nat} {h : aH} {n : Nat} {Q : aQ} {x0 : Int} (kt : 90 < x0 → Rn d bc bs mX9_isLetter 28 [some (vI x0)] [] h n Q) (kf : x0 ≤ 90 → Rn d bc bs mX9_isLetter 24 [some (vI x0)] [] h n Q) : Rn d (bc) (bs) mX9_isLetter 18 [some (vI x0)] [] h n Q := by
  refine Rn_iload_n dX9_isLetter_18 rfl rfl ?_
  refine Rn_bipush dX9_isLetter_19 rfl ?_
  refine Rn_icmpgt (tgt := 28) dX9_isLetter_21 rfl ?_ ?_
  · exact kt
  · exact kf
theorem BX9_isLetter_24 {d bc bs : Nat} {h : aH} {n : Nat} {Q : aQ} {x0 : Int} (k : Q (some (vI 1)) h n) : Rn d (bc) (bs) mX9_isLetter 24 [some (vI x0)] [] h n Q := by
  refine Rn_iconst dX9_isLetter_24 rfl ?_
  refine Rn_goto (tgt := 29) dX9_isLetter_25 rfl ?_
  exact Rn_zreturn rfl dX9_isLetter_29 (by decide) k
theorem BX9_isLetter_28 {d bc bs : Nat} {h : aH} {n : Nat} {Q : aQ} {x0 : Int} (k : Q (some (vI 0)) h n) : Rn d (bc) (bs) mX9_isLetter 28 [some (vI x0)] [] h n Q := by
  refine Rn_iconst dX9_isLetter_28 rfl ?_
  exact Rn_zreturn rfl dX9_isLetter_29 (by decide) k
theorem dX9_readNumber_0 : decode cX9_readNumber 0 = .ok (.aload_n 0, 1) := by decide +kernel
theorem dX9_readNumber_1 : decode cX9_readNumber 1 = .ok (.iconst 2, 1) := by decide +kernel
theorem dX9_readNumber_2 : decode cX9_readNumber 2 = .ok (.putfield 19, 3) := by decide +kernel
theorem dX9_readNumber_5 : decode cX9_readNumber 5 = .ok (.aload_n 0, 1) := by decide +kernel
theorem dX9_readNumber_6 : decode cX9_readNumber 6 = .ok (.iconst 0, 1) := by decide +kernel
theorem dX9_readNumber_7 : decode cX9_readNumber 7 = .ok (.putfield 25, 3) := by decide +kernel
theorem dX9_readNumber_10 : decode cX9_readNumber 10 = .ok (.iconst 0, 1) := by decide +kernel
theorem dX9_readNumber_11 : decode cX9_readNumber 11 = .ok (.istore_n 1, 1) := by decide +kernel
theorem dX9_readNumber_12 : decode cX9_readNumber 12 = .ok (.iload_n 1, 1) := by decide +kernel
theorem dX9_readNumber_13 : decode cX9_readNumber 13 = .ok (.sipush 300, 3) := by decide +kernel
theorem dX9_readNumber_16 : decode cX9_readNumber 16 = .ok (.if_icmp .ge 62, 3) := by decide +kernel
theorem dX9_readNumber_19 : decode cX9_readNumber 19 = .ok (.aload_n 0, 1) := by decide +kernel
theorem dX9_readNumber_20 : decode cX9_readNumber 20 = .ok (.aload_n 0, 1) := by decide +kernel
theorem dX9_readNumber_21 : decode cX9_readNumber 21 = .ok (.getfield 28, 3) := by decide +kernel
theorem dX9_readNumber_24 : decode cX9_readNumber 24 = .ok (.invokevirtual 38, 3) := by decide +kernel
theorem dX9_readNumber_27 : decode cX9_readNumber 27 = .ok (.invokestatic 42, 3) := by decide +kernel
theorem dX9_readNumber_30 : decode cX9_readNumber 30 = .ok (.ifCond .eq 48, 3) := by decide +kernel
theorem dX9_readNumber_33 : decode cX9_readNumber 33 = .ok (.aload_n 0, 1) := by decide +kernel
theorem dX9_readNumber_34 : decode cX9_readNumber 34 = .ok (.aload_n 0, 1) := by decide +kernel
theorem dX9_readNumber_35 : decode cX9_readNumber 35 = .ok (.getfield 25, 3) := by decide +kernel
theorem dX9_readNumber_38 : decode cX9_readNumber 38 = .ok (.bipush 10, 2) := by decide +kernel
theorem dX9_readNumber_40 : decode cX9_readNumber 40 = .ok (.imul, 1) := by decide +kernel
theorem dX9_readNumber_41 : decode cX9_readNumber 41 = .ok (.aload_n 0, 1) := by decide +kernel
theorem dX9_readNumber_42 : decode cX9_readNumber 42 = .ok (.aload_n 0, 1) := by decide +kernel
theorem dX9_readNumber_43 : decode cX9_readNumber 43 = .ok (.getfield 28, 3) := by decide +kernel
theorem dX9_readNumber_46 : decode cX9_readNumber 46 = .ok (.invokevirtual 38, 3) := by decide +kernel
theorem dX9_readNumber_49 : decode cX9_readNumber 49 = .ok (.iadd, 1) := by decide +kernel
theorem dX9_readNumber_50 : decode cX9_readNumber 50 = .ok (.bipush 48, 2) := by decide +kernel
theorem dX9_readNumber_52 : decode cX9_readNumber 52 = .ok (.isub, 1) := by decide +kernel
theorem dX9_readNumber_53 : decode cX9_readNumber 53 = .ok (.sipush 10000, 3) := by decide +kernel
theorem dX9_readNumber_56 : decode cX9_readNumber 56 = .ok (.invokestatic 59, 3) := by decide +kernel
theorem dX9_readNumber_59 : decode cX9_readNumber 59 = .ok (.putfield 25, 3) := by decide +kernel
theorem dX9_readNumber_62 : decode cX9_readNumber 62 = .ok (.aload_n 0, 1) := by decide +kernel
theorem dX9_readNumber_63 : decode cX9_readNumber 63 = .ok (.dup, 1) := by decide +kernel
theorem dX9_readNumber_64 : decode cX9_readNumber 64 = .ok (.getfield 28, 3) := by decide +kernel
theorem dX9_readNumber_67 : decode cX9_readNumber 67 = .ok (.iconst 1, 1) := by decide +kernel
theorem dX9_readNumber_68 : decode cX9_readNumber 68 = .ok (.iadd, 1) := by decide +kernel
theorem dX9_readNumber_69 : decode cX9_readNumber 69 = .ok (.putfield 28, 3) := by decide +kernel
theorem dX9_readNumber_72 : decode cX9_readNumber 72 = .ok (.iinc 1 1, 3) := by decide +kernel
theorem dX9_readNumber_75 : decode cX9_readNumber 75 = .ok (.goto (-63), 3) := by decide +kernel
theorem dX9_readNumber_78 : decode cX9_readNumber 78 = .ok (.return_, 1) := by decide +kernel
theorem BX9_readNumber_0 {d bc bs : Nat} {h : aH} {n : Nat} {Q : aQ} {ar0 : Nat} {l1 : Option aV} {f1 : List aV} (h2 : h ar0 = cO 9 f1) (m3 : 2 < f1.length) (k : Rn d bc bs mX9_readNumber 5 [some (vR (some ar0)), l1] [] (up h ar0 (cO 9 (f1.set 2 (vI 2)))) n Q) : Rn d (bc) (bs) mX9_readNumber 0 [some (vR (some ar0)), l1] [] h n Q := by
  refine Rn_aload_n dX9_readNumber_0 rfl rfl rfl ?_
  refine Rn_iconst dX9_readNumber_1 rfl ?_
  refine Rn_putfield (ci := 9) (k := 2) dX9_readNumber_2 rfl in_9 tyX9_ok nmX9 (Nat.le_of_ble_eq_true rfl) wd_329 rfl (Or.inl rfl) trivial m3 h2 ?_
  exact k
theorem BX9_readNumber_5 {d bc bs : Nat} {h : aH} {n : Nat} {Q : aQ} {ar0 : Nat} {l1 : Option aV} {f1 : List aV} (h2 : h ar0 = cO 9 f1) (m3 : 4 < f1.length) (k : Rn d bc bs mX9_readNumber 10 [some (vR (some ar0)), l1] [] (up h ar0 (cO 9 (f1.set 4 (vI 0)))) n Q) : Rn d (bc) (bs) mX9_readNumber 5 [some (vR (some ar0)), l1] [] h n Q := by
  refine Rn_aload_n dX9_readNumber_5 rfl rfl rfl ?_
  refine Rn_iconst dX9_readNumber_6 rfl ?_
  refine Rn_putfield (ci := 9) (k := 4) dX9_readNumber_7 rfl in_9 tyX9_ok nmX9 (Nat.le_of_ble_eq_true rfl) wd_333 rfl (Or.inl rfl) trivial m3 h2 ?_
  exact k
theorem BX9_readNumber_10 {d bc bs : Nat} {h : aH} {n : Nat} {Q : aQ} {r0 : Option Nat} {l1 : Option aV} (k : Rn d bc bs mX9_readNumber 12 [some (vR r0), some (vI 0)] [] h n Q) : Rn d (bc) (bs) mX9_readNumber 10 [some (vR r0), l1] [] h n Q := by
  refine Rn_iconst dX9_readNumber_10 rfl ?_
  refine Rn_istore_n dX9_readNumber_11 rfl (Nat.le_of_ble_eq_true rfl) rfl rfl ?_
  exact k
theorem BX9_readNumber_12 {d bc bs : Nat} {h : aH} {n : Nat} {Q : aQ} {r0 : Option Nat} {x1 : Int} (kt : 300 ≤ x1 → Rn d bc bs mX9_readNumber 78 [some (vR r0), some (vI x1)] [] h n Q) (kf : x1 < 300 → Rn d bc bs mX9_readNumber 19 [some (vR r0), some (vI x1)] [] h n Q) : Rn d (bc) (bs) mX9_readNumber 12 [some (vR r0), some (vI x1)] [] h n Q := by
  refine Rn_iload_n dX9_readNumber_12 rfl rfl ?_
  refine Rn_sipush dX9_readNumber_13 rfl ?_
  refine Rn_icmpge (tgt := 78) dX9_readNumber_16 rfl ?_ ?_
  · exact kt
  · exact kf
theorem BX9_readNumber_19 {d bc bs : Nat} {h : aH} {n : Nat} {Q : aQ} {ar0 : Nat} {x1 v3 : Int} {f1 : List aV} (h2 : h ar0 = cO 9 f1) (g4 : f1[5]? = some (vI v3)) (k : Rn d 0 0 mX9_byteAt 0 [some (vR (some ar0)), some (vI v3)] [] h n (fun v h1 n1 => Rn (d + 1) bc bs mX9_readNumber 27 [some (vR (some ar0)), some (vI x1)] (v.toList ++ []) h1 n1 Q)) : Rn (d + 1) (bc) (bs) mX9_readNumber 19 [some (vR (some ar0)), some (vI x1)] [] h n Q := by
  refine Rn_aload_n dX9_readNumber_19 rfl rfl rfl ?_
  refine Rn_aload_n dX9_readNumber_20 rfl rfl rfl ?_
  refine Rn_getfield (ci := 9) (k := 5) dX9_readNumber_21 rfl in_9 (Nat.le_of_ble_eq_true rfl) wd_335 rfl h2 g4 ?_
  exact Rn_callV (ci := 9) (avs := [vI v3]) (st := []) (bc1 := 0) (bs1 := 0) (bc2 := bc) (bs2 := bs) fx_X9_byteAt dX9_readNumber_24 wd_547 wd_549 wd_0 rfl h2 rfl (Nat.le_of_ble_eq_true rfl) (Nat.le_of_ble_eq_true rfl) (by omega) (by omega) (ls1 := [some (vR (some ar0)), some (vI v3)]) rfl k
theorem BX9_readNumber_27 {d bc bs : Nat} {h : aH} {n : Nat} {Q : aQ} {r0 : Option Nat} {x1 s0 : Int} (k : Rn d 0 0 mX9_isDigit 0 [some (vI s0)] [] h n (fun v h1 n1 => Rn (d + 1) bc bs mX9_readNumber 30 [some (vR r0), some (vI x1)] (v.toList ++ []) h1 n1 Q)) : Rn (d + 1) (bc) (bs) mX9_readNumber 27 [some (vR r0), some (vI x1)] [vI s0] h n Q := by
  exact Rn_callS (avs := [vI s0]) (st := []) (bc1 := 0) (bs1 := 0) (bc2 := bc) (bs2 := bs) fx_X9_isDigit dX9_readNumber_27 (Or.inl wd_551) wd_552 rfl (Nat.le_of_ble_eq_true rfl) (Nat.le_of_ble_eq_true rfl) (by omega) (by omega) (ls1 := [some (vI s0)]) rfl k
theorem BX9_readNumber_30 {d bc bs : Nat} {h : aH} {n : Nat} {Q : aQ} {r0 : Option Nat} {x1 s0 : Int} (kt : s0 = 0 → Rn d bc bs mX9_readNumber 78 [some (vR r0), some (vI x1)] [] h n Q) (kf : s0 ≠ 0 → Rn d bc bs mX9_readNumber 33 [some (vR r0), some (vI x1)] [] h n Q) : Rn d (bc) (bs) mX9_readNumber 30 [some (vR r0), some (vI x1)] [vI s0] h n Q := by
  refine Rn_ifeq (tgt := 78) dX9_readNumber_30 rfl ?_ ?_
  · exact kt
  · exact kf
theorem BX9_readNumber_33 {d bc bs : Nat} {h : aH} {n : Nat} {Q : aQ} {ar0 : Nat} {x1 v3 v6 : Int} {f1 : List aV} (h2 : h ar0 = cO 9 f1) (g4 : f1[4]? = some (vI v3)) (b5 : -2147483648 ≤ v3 * 10 ∧ v3 * 10 < 2147483648) (g7 : f1[5]? = some (vI v6)) (k : Rn d 0 0 mX9_byteAt 0 [some (vR (some ar0)), some (vI v6)] [] h n (fun v h1 n1 => Rn (d + 1) bc bs mX9_readNumber 49 [some (vR (some ar0)), some (vI x1)] (v.toList ++ [vI (v3 * 10), vR (some ar0)]) h1 n1 Q)) : Rn (d + 1) (bc) (bs) mX9_readNumber 33 [some (vR (some ar0)), some (vI x1)] [] h n Q := by
  refine Rn_aload_n dX9_readNumber_33 rfl rfl rfl ?_
  refine Rn_aload_n dX9_readNumber_34 rfl rfl rfl ?_
  refine Rn_getfield (ci := 9) (k := 4) dX9_readNumber_35 rfl in_9 (Nat.le_of_ble_eq_true rfl) wd_333 rfl h2 g4 ?_
  refine Rn_bipush dX9_readNumber_38 rfl ?_
  refine Rn_imul dX9_readNumber_40 ?_
  rw [w32_id b5.1 b5.2]
  refine Rn_aload_n dX9_readNumber_41 rfl rfl rfl ?_
  refine Rn_aload_n dX9_readNumber_42 rfl rfl rfl ?_
  refine Rn_getfield (ci := 9) (k := 5) dX9_readNumber_43 rfl in_9 (Nat.le_of_ble_eq_true rfl) wd_335 rfl h2 g7 ?_
  exact Rn_callV (ci := 9) (avs := [vI v6]) (st := [vI (v3 * 10), vR (some ar0)]) (bc1 := 0) (bs1 := 0) (bc2 := bc) (bs2 := bs) fx_X9_byteAt dX9_readNumber_46 wd_547 wd_549 wd_0 rfl h2 rfl (Nat.le_of_ble_eq_true rfl) (Nat.le_of_ble_eq_true rfl) (by omega) (by omega) (ls1 := [some (vR (some ar0)), some (vI v6)]) rfl k
theorem BX9_readNumber_49 {d bc bs : Nat} {h : aH} {n : Nat} {Q : aQ} {r0 q0 : Option Nat} {x1 s1 s2 : Int} (b1 : -2147483648 ≤ s1 + s2 ∧ s1 + s2 < 2147483648) (b2 : -2147483648 ≤ (s1 + s2) - 48 ∧ (s1 + s2) - 48 < 2147483648) (k : Rn d 0 0 mJ9_min_7cf53 0 [some (vI ((s1 + s2) - 48)), some (vI 10000)] [] h n (fun v h1 n1 => Rn (d + 1) bc bs mX9_readNumber 59 [some (vR r0), some (vI x1)] (v.toList ++ [vR q0]) h1 n1 Q)) : Rn (d + 1) (bc) (bs) mX9_readNumber 49 [some (vR r0), some (vI x1)] [vI s2, vI s1, vR q0] h n Q := by
  refine Rn_iadd dX9_readNumber_49 ?_
  rw [w32_id b1.1 b1.2]
  refine Rn_bipush dX9_readNumber_50 rfl ?_
  refine Rn_isub dX9_readNumber_52 ?_
  rw [w32_id b2.1 b2.2]
  refine Rn_sipush dX9_readNumber_53 rfl ?_
  exact Rn_callS (avs := [vI ((s1 + s2) - 48), vI 10000]) (st := [vR q0]) (bc1 := 0) (bs1 := 0) (bc2 := bc) (bs2 := bs) fx_J9_min_7cf53 dX9_readNumber_56 (Or.inl wd_558) wd_559 rfl (Nat.le_of_ble_eq_true rfl) (Nat.le_of_ble_eq_true rfl) (by omega) (by omega) (ls1 := [some (vI ((s1 + s2) - 48)), some (vI 10000)]) rfl k
theorem BX9_readNumber_59 {d bc bs : Nat} {h : aH} {n : Nat} {Q : aQ} {r0 : Option Nat} {x1 s1 : Int} {aq0 : Nat} {f1 : List aV} (h2 : h aq0 = cO 9 f1) (m3 : 4 < f1.length) (k : Rn d bc bs mX9_readNumber 62 [some (vR r0), some (vI x1)] [] (up h aq0 (cO 9 (f1.set 4 (vI s1)))) n Q) : Rn d (bc) (bs) mX9_readNumber 59 [some (vR r0), some (vI x1)] [vI s1, vR (some aq0)] h n Q := by
  refine Rn_putfield (ci := 9) (k := 4) dX9_readNumber_59 rfl in_9 tyX9_ok nmX9 (Nat.le_of_ble_eq_true rfl) wd_333 rfl (Or.inl rfl) trivial m3 h2 ?_
  exact k
theorem BX9_readNumber_62 {d bc bs : Nat} {h : aH} {n : Nat} {Q : aQ} {ar0 : Nat} {x1 v3 : Int} {f1 : List aV} (h2 : h ar0 = cO 9 f1) (g4 : f1[5]? = some (vI v3)) (b5 : -2147483648 ≤ v3 + 1 ∧ v3 + 1 < 2147483648) (m6 : 5 < f1.length) (k : Rn d bc bs mX9_readNumber 72 [some (vR (some ar0)), some (vI x1)] [] (up h ar0 (cO 9 (f1.set 5 (vI (v3 + 1))))) n Q) : Rn d (bc) (bs) mX9_readNumber 62 [some (vR (some ar0)), some (vI x1)] [] h n Q := by
  refine Rn_aload_n dX9_readNumber_62 rfl rfl rfl ?_
  refine Rn_dup dX9_readNumber_63 rfl ?_
  refine Rn_getfield (ci := 9) (k := 5) dX9_readNumber_64 rfl in_9 (Nat.le_of_ble_eq_true rfl) wd_335 rfl h2 g4 ?_
  refine Rn_iconst dX9_readNumber_67 rfl ?_
  refine Rn_iadd dX9_readNumber_68 ?_
  rw [w32_id b5.1 b5.2]
  refine Rn_putfield (ci := 9) (k := 5) dX9_readNumber_69 rfl in_9 tyX9_ok nmX9 (Nat.le_of_ble_eq_true rfl) wd_335 rfl (Or.inl rfl) trivial m6 h2 ?_
  exact k
theorem BX9_readNumber_72 {d bc bs : Nat} {h : aH} {n : Nat} {Q : aQ} {r0 : Option Nat} {x1 : Int} (b1 : -2147483648 ≤ x1 + 1 ∧ x1 + 1 < 2147483648) (k : Rn d bc bs mX9_readNumber 12 [some (vR r0), some (vI (x1 + 1))] [] h n Q) : Rn d (bc) (bs) mX9_readNumber 72 [some (vR r0), some (vI x1)] [] h n Q := by
  refine Rn_iinc dX9_readNumber_72 rfl (Nat.le_of_ble_eq_true rfl) rfl rfl rfl ?_
  rw [w32_id b1.1 b1.2]
  refine Rn_goto (tgt := 12) dX9_readNumber_75 rfl ?_
  exact k
theorem BX9_readNumber_78 {d bc bs : Nat} {h : aH} {n : Nat} {Q : aQ} {r0 : Option Nat} {x1 : Int} (k : Q none h n) : Rn d (bc) (bs) mX9_readNumber 78 [some (vR r0), some (vI x1)] [] h n Q := by
  exact Rn_return rfl dX9_readNumber_78 k
theorem dX9_readWord_0 : decode cX9_readWord 0 = .ok (.iconst 0, 1) := by decide +kernel
theorem dX9_readWord_1 : decode cX9_readWord 1 = .ok (.istore_n 1, 1) := by decide +kernel
theorem dX9_readWord_2 : decode cX9_readWord 2 = .ok (.iload_n 1, 1) := by decide +kernel
theorem dX9_readWord_3 : decode cX9_readWord 3 = .ok (.sipush 300, 3) := by decide +kernel
theorem dX9_readWord_6 : decode cX9_readWord 6 = .ok (.if_icmp .ge 33, 3) := by decide +kernel
theorem dX9_readWord_9 : decode cX9_readWord 9 = .ok (.aload_n 0, 1) := by decide +kernel
theorem dX9_readWord_10 : decode cX9_readWord 10 = .ok (.aload_n 0, 1) := by decide +kernel
theorem dX9_readWord_11 : decode cX9_readWord 11 = .ok (.getfield 28, 3) := by decide +kernel
theorem dX9_readWord_14 : decode cX9_readWord 14 = .ok (.invokevirtual 38, 3) := by decide +kernel
theorem dX9_readWord_17 : decode cX9_readWord 17 = .ok (.invokestatic 49, 3) := by decide +kernel
theorem dX9_readWord_20 : decode cX9_readWord 20 = .ok (.ifCond .eq 19, 3) := by decide +kernel
theorem dX9_readWord_23 : decode cX9_readWord 23 = .ok (.aload_n 0, 1) := by decide +kernel
theorem dX9_readWord_24 : decode cX9_readWord 24 = .ok (.dup, 1) := by decide +kernel
theorem dX9_readWord_25 : decode cX9_readWord 25 = .ok (.getfield 28, 3) := by decide +kernel
theorem dX9_readWord_28 : decode cX9_readWord 28 = .ok (.iconst 1, 1) := by decide +kernel
theorem dX9_readWord_29 : decode cX9_readWord 29 = .ok (.iadd, 1) := by decide +kernel
theorem dX9_readWord_30 : decode cX9_readWord 30 = .ok (.putfield 28, 3) := by decide +kernel
theorem dX9_readWord_33 : decode cX9_readWord 33 = .ok (.iinc 1 1, 3) := by decide +kernel
theorem dX9_readWord_36 : decode cX9_readWord 36 = .ok (.goto (-34), 3) := by decide +kernel
theorem dX9_readWord_39 : decode cX9_readWord 39 = .ok (.aload_n 0, 1) := by decide +kernel
theorem dX9_readWord_40 : decode cX9_readWord 40 = .ok (.iconst 1, 1) := by decide +kernel
theorem dX9_readWord_41 : decode cX9_readWord 41 = .ok (.putfield 19, 3) := by decide +kernel
theorem dX9_readWord_44 : decode cX9_readWord 44 = .ok (.bipush 16, 2) := by decide +kernel
theorem dX9_readWord_46 : decode cX9_readWord 46 = .ok (.istore_n 1, 1) := by decide +kernel
theorem dX9_readWord_47 : decode cX9_readWord 47 = .ok (.iconst 0, 1) := by decide +kernel
theorem dX9_readWord_48 : decode cX9_readWord 48 = .ok (.istore_n 2, 1) := by decide +kernel
theorem dX9_readWord_49 : decode cX9_readWord 49 = .ok (.iconst 0, 1) := by decide +kernel
theorem dX9_readWord_50 : decode cX9_readWord 50 = .ok (.istore_n 3, 1) := by decide +kernel
theorem dX9_readWord_51 : decode cX9_readWord 51 = .ok (.iload_n 3, 1) := by decide +kernel
theorem dX9_readWord_52 : decode cX9_readWord 52 = .ok (.ldc 65, 2) := by decide +kernel
theorem dX9_readWord_54 : decode cX9_readWord 54 = .ok (.invokevirtual 67, 3) := by decide +kernel
theorem dX9_readWord_57 : decode cX9_readWord 57 = .ok (.if_icmp .ge 78, 3) := by decide +kernel
theorem dX9_readWord_60 : decode cX9_readWord 60 = .ok (.ldc 65, 2) := by decide +kernel
theorem dX9_readWord_62 : decode cX9_readWord 62 = .ok (.iload_n 3, 1) := by decide +kernel
theorem dX9_readWord_63 : decode cX9_readWord 63 = .ok (.invokevirtual 72, 3) := by decide +kernel
theorem dX9_readWord_66 : decode cX9_readWord 66 = .ok (.istore 4, 2) := by decide +kernel
theorem dX9_readWord_68 : decode cX9_readWord 68 = .ok (.iload 4, 2) := by decide +kernel
theorem dX9_readWord_70 : decode cX9_readWord 70 = .ok (.bipush 32, 2) := by decide +kernel
theorem dX9_readWord_72 : decode cX9_readWord 72 = .ok (.if_icmp .ne 29, 3) := by decide +kernel
theorem dX9_readWord_75 : decode cX9_readWord 75 = .ok (.iload_n 2, 1) := by decide +kernel
theorem dX9_readWord_76 : decode cX9_readWord 76 = .ok (.aload_n 0, 1) := by decide +kernel
theorem dX9_readWord_77 : decode cX9_readWord 77 = .ok (.getfield 28, 3) := by decide +kernel
theorem dX9_readWord_80 : decode cX9_readWord 80 = .ok (.aload_n 0, 1) := by decide +kernel
theorem dX9_readWord_81 : decode cX9_readWord 81 = .ok (.getfield 22, 3) := by decide +kernel
theorem dX9_readWord_84 : decode cX9_readWord 84 = .ok (.isub, 1) := by decide +kernel
theorem dX9_readWord_85 : decode cX9_readWord 85 = .ok (.if_icmp .ne 8, 3) := by decide +kernel
theorem dX9_readWord_88 : decode cX9_readWord 88 = .ok (.aload_n 0, 1) := by decide +kernel
theorem dX9_readWord_89 : decode cX9_readWord 89 = .ok (.iload_n 1, 1) := by decide +kernel
theorem dX9_readWord_90 : decode cX9_readWord 90 = .ok (.putfield 19, 3) := by decide +kernel
theorem dX9_readWord_93 : decode cX9_readWord 93 = .ok (.iinc 1 1, 3) := by decide +kernel
theorem dX9_readWord_96 : decode cX9_readWord 96 = .ok (.iconst 0, 1) := by decide +kernel
theorem dX9_readWord_97 : decode cX9_readWord 97 = .ok (.istore_n 2, 1) := by decide +kernel
theorem dX9_readWord_98 : decode cX9_readWord 98 = .ok (.goto 31, 3) := by decide +kernel
theorem dX9_readWord_101 : decode cX9_readWord 101 = .ok (.iload_n 2, 1) := by decide +kernel
theorem dX9_readWord_102 : decode cX9_readWord 102 = .ok (.iconst (-1), 1) := by decide +kernel
theorem dX9_readWord_103 : decode cX9_readWord 103 = .ok (.if_icmp .eq 26, 3) := by decide +kernel
theorem dX9_readWord_106 : decode cX9_readWord 106 = .ok (.aload_n 0, 1) := by decide +kernel
theorem dX9_readWord_107 : decode cX9_readWord 107 = .ok (.aload_n 0, 1) := by decide +kernel
theorem dX9_readWord_108 : decode cX9_readWord 108 = .ok (.getfield 22, 3) := by decide +kernel
theorem dX9_readWord_111 : decode cX9_readWord 111 = .ok (.iload_n 2, 1) := by decide +kernel
theorem dX9_readWord_112 : decode cX9_readWord 112 = .ok (.iadd, 1) := by decide +kernel
theorem dX9_readWord_113 : decode cX9_readWord 113 = .ok (.invokevirtual 38, 3) := by decide +kernel
theorem dX9_readWord_116 : decode cX9_readWord 116 = .ok (.iload 4, 2) := by decide +kernel
theorem dX9_readWord_118 : decode cX9_readWord 118 = .ok (.if_icmp .ne 9, 3) := by decide +kernel
theorem dX9_readWord_121 : decode cX9_readWord 121 = .ok (.iload_n 2, 1) := by decide +kernel
theorem dX9_readWord_122 : decode cX9_readWord 122 = .ok (.iconst 1, 1) := by decide +kernel
theorem dX9_readWord_123 : decode cX9_readWord 123 = .ok (.iadd, 1) := by decide +kernel
theorem dX9_readWord_124 : decode cX9_readWord 124 = .ok (.goto 4, 3) := by decide +kernel
theorem dX9_readWord_127 : decode cX9_readWord 127 = .ok (.iconst (-1), 1) := by decide +kernel
theorem dX9_readWord_128 : decode cX9_readWord 128 = .ok (.istore_n 2, 1) := by decide +kernel
theorem dX9_readWord_129 : decode cX9_readWord 129 = .ok (.iinc 3 1, 3) := by decide +kernel
theorem dX9_readWord_132 : decode cX9_readWord 132 = .ok (.goto (-81), 3) := by decide +kernel
theorem dX9_readWord_135 : decode cX9_readWord 135 = .ok (.return_, 1) := by decide +kernel
theorem BX9_readWord_0 {d bc bs : Nat} {h : aH} {n : Nat} {Q : aQ} {r0 : Option Nat} {l1 l2 l3 l4 : Option aV} (k : Rn d bc bs mX9_readWord 2 [some (vR r0), some (vI 0), l2, l3, l4] [] h n Q) : Rn d (bc) (bs) mX9_readWord 0 [some (vR r0), l1, l2, l3, l4] [] h n Q := by
  refine Rn_iconst dX9_readWord_0 rfl ?_
  refine Rn_istore_n dX9_readWord_1 rfl (Nat.le_of_ble_eq_true rfl) rfl rfl ?_
  exact k
theorem BX9_readWord_2 {d bc bs : Nat} {h : aH} {n : Nat} {Q : aQ} {r0 : Option Nat} {x1 : Int} {l2 l3 l4 : Option aV} (kt : 300 ≤ x1 → Rn d bc bs mX9_readWord 39 [some (vR r0), some (vI x1), l2, l3, l4] [] h n Q) (kf : x1 < 300 → Rn d bc bs mX9_readWord 9 [some (vR r0), some (vI x1), l2, l3, l4] [] h n Q) : Rn d (bc) (bs) mX9_readWord 2 [some (vR r0), some (vI x1), l2, l3, l4] [] h n Q := by
  refine Rn_iload_n dX9_readWord_2 rfl rfl ?_
  refine Rn_sipush dX9_readWord_3 rfl ?_
  refine Rn_icmpge (tgt := 39) dX9_readWord_6 rfl ?_ ?_
  · exact kt
  · exact kf
theorem BX9_readWord_9 {d bc bs : Nat} {h : aH} {n : Nat} {Q : aQ} {ar0 : Nat} {x1 v3 : Int} {l2 l3 l4 : Option aV} {f1 : List aV} (h2 : h ar0 = cO 9 f1) (g4 : f1[5]? = some (vI v3)) (k : Rn d 0 0 mX9_byteAt 0 [some (vR (some ar0)), some (vI v3)] [] h n (fun v h1 n1 => Rn (d + 1) bc bs mX9_readWord 17 [some (vR (some ar0)), some (vI x1), l2, l3, l4] (v.toList ++ []) h1 n1 Q)) : Rn (d + 1) (bc) (bs) mX9_readWord 9 [some (vR (some ar0)), some (vI x1), l2, l3, l4] [] h n Q := by
  refine Rn_aload_n dX9_readWord_9 rfl rfl rfl ?_
  refine Rn_aload_n dX9_readWord_10 rfl rfl rfl ?_
  refine Rn_getfield (ci := 9) (k := 5) dX9_readWord_11 rfl in_9 (Nat.le_of_ble_eq_true rfl) wd_335 rfl h2 g4 ?_
  exact Rn_callV (ci := 9) (avs := [vI v3]) (st := []) (bc1 := 0) (bs1 := 0) (bc2 := bc) (bs2 := bs) fx_X9_byteAt dX9_readWord_14 wd_547 wd_549 wd_0 rfl h2 rfl (Nat.le_of_ble_eq_true rfl) (Nat.le_of_ble_eq_true rfl) (by omega) (by omega) (ls1 := [some (vR (some ar0)), some (vI v3)]) rfl k
theorem BX9_readWord_17 {d bc bs : Nat} {h : aH} {n : Nat} {Q : aQ} {r0 : Option Nat} {x1 s0 : Int} {l2 l3 l4 : Option aV} (k : Rn d 0 0 mX9_isLetter 0 [some (vI s0)] [] h n (fun v h1 n1 => Rn (d + 1) bc bs mX9_readWord 20 [some (vR r0), some (vI x1), l2, l3, l4] (v.toList ++ []) h1 n1 Q)) : Rn (d + 1) (bc) (bs) mX9_readWord 17 [some (vR r0), some (vI x1), l2, l3, l4] [vI s0] h n Q := by
  exact Rn_callS (avs := [vI s0]) (st := []) (bc1 := 0) (bs1 := 0) (bc2 := bc) (bs2 := bs) fx_X9_isLetter dX9_readWord_17 (Or.inl wd_561) wd_562 rfl (Nat.le_of_ble_eq_true rfl) (Nat.le_of_ble_eq_true rfl) (by omega) (by omega) (ls1 := [some (vI s0)]) rfl k
theorem BX9_readWord_20 {d bc bs : Nat} {h : aH} {n : Nat} {Q : aQ} {r0 : Option Nat} {x1 s0 : Int} {l2 l3 l4 : Option aV} (kt : s0 = 0 → Rn d bc bs mX9_readWord 39 [some (vR r0), some (vI x1), l2, l3, l4] [] h n Q) (kf : s0 ≠ 0 → Rn d bc bs mX9_readWord 23 [some (vR r0), some (vI x1), l2, l3, l4] [] h n Q) : Rn d (bc) (bs) mX9_readWord 20 [some (vR r0), some (vI x1), l2, l3, l4] [vI s0] h n Q := by
  refine Rn_ifeq (tgt := 39) dX9_readWord_20 rfl ?_ ?_
  · exact kt
  · exact kf
theorem BX9_readWord_23 {d bc bs : Nat} {h : aH} {n : Nat} {Q : aQ} {ar0 : Nat} {x1 v3 : Int} {l2 l3 l4 : Option aV} {f1 : List aV} (h2 : h ar0 = cO 9 f1) (g4 : f1[5]? = some (vI v3)) (b5 : -2147483648 ≤ v3 + 1 ∧ v3 + 1 < 2147483648) (m6 : 5 < f1.length) (k : Rn d bc bs mX9_readWord 33 [some (vR (some ar0)), some (vI x1), l2, l3, l4] [] (up h ar0 (cO 9 (f1.set 5 (vI (v3 + 1))))) n Q) : Rn d (bc) (bs) mX9_readWord 23 [some (vR (some ar0)), some (vI x1), l2, l3, l4] [] h n Q := by
  refine Rn_aload_n dX9_readWord_23 rfl rfl rfl ?_
  refine Rn_dup dX9_readWord_24 rfl ?_
  refine Rn_getfield (ci := 9) (k := 5) dX9_readWord_25 rfl in_9 (Nat.le_of_ble_eq_true rfl) wd_335 rfl h2 g4 ?_
  refine Rn_iconst dX9_readWord_28 rfl ?_
  refine Rn_iadd dX9_readWord_29 ?_
  rw [w32_id b5.1 b5.2]
  refine Rn_putfield (ci := 9) (k := 5) dX9_readWord_30 rfl in_9 tyX9_ok nmX9 (Nat.le_of_ble_eq_true rfl) wd_335 rfl (Or.inl rfl) trivial m6 h2 ?_
  exact k
theorem BX9_readWord_33 {d bc bs : Nat} {h : aH} {n : Nat} {Q : aQ} {r0 : Option Nat} {x1 : Int} {l2 l3 l4 : Option aV} (b1 : -2147483648 ≤ x1 + 1 ∧ x1 + 1 < 2147483648) (k : Rn d bc bs mX9_readWord 2 [some (vR r0), some (vI (x1 + 1)), l2, l3, l4] [] h n Q) : Rn d (bc) (bs) mX9_readWord 33 [some (vR r0), some (vI x1), l2, l3, l4] [] h n Q := by
  refine Rn_iinc dX9_readWord_33 rfl (Nat.le_of_ble_eq_true rfl) rfl rfl rfl ?_
  rw [w32_id b1.1 b1.2]
  refine Rn_goto (tgt := 2) dX9_readWord_36 rfl ?_
  exact k
theorem BX9_readWord_39 {d bc bs : Nat} {h : aH} {n : Nat} {Q : aQ} {ar0 : Nat} {x1 : Int} {l2 l3 l4 : Option aV} {f1 : List aV} (h2 : h ar0 = cO 9 f1) (m3 : 2 < f1.length) (k : Rn d bc bs mX9_readWord 44 [some (vR (some ar0)), some (vI x1), l2, l3, l4] [] (up h ar0 (cO 9 (f1.set 2 (vI 1)))) n Q) : Rn d (bc) (bs) mX9_readWord 39 [some (vR (some ar0)), some (vI x1), l2, l3, l4] [] h n Q := by
  refine Rn_aload_n dX9_readWord_39 rfl rfl rfl ?_
  refine Rn_iconst dX9_readWord_40 rfl ?_
  refine Rn_putfield (ci := 9) (k := 2) dX9_readWord_41 rfl in_9 tyX9_ok nmX9 (Nat.le_of_ble_eq_true rfl) wd_329 rfl (Or.inl rfl) trivial m3 h2 ?_
  exact k
theorem BX9_readWord_44 {d bc bs : Nat} {h : aH} {n : Nat} {Q : aQ} {r0 : Option Nat} {x1 : Int} {l2 l3 l4 : Option aV} (k : Rn d bc bs mX9_readWord 51 [some (vR r0), some (vI 16), some (vI 0), some (vI 0), l4] [] h n Q) : Rn d (bc) (bs) mX9_readWord 44 [some (vR r0), some (vI x1), l2, l3, l4] [] h n Q := by
  refine Rn_bipush dX9_readWord_44 rfl ?_
  refine Rn_istore_n dX9_readWord_46 rfl (Nat.le_of_ble_eq_true rfl) rfl rfl ?_
  refine Rn_iconst dX9_readWord_47 rfl ?_
  refine Rn_istore_n dX9_readWord_48 rfl (Nat.le_of_ble_eq_true rfl) rfl rfl ?_
  refine Rn_iconst dX9_readWord_49 rfl ?_
  refine Rn_istore_n dX9_readWord_50 rfl (Nat.le_of_ble_eq_true rfl) rfl rfl ?_
  exact k
theorem BX9_readWord_51 {d bc bs : Nat} {h : aH} {n : Nat} {Q : aQ} {r0 : Option Nat} {x1 x2 x3 : Int} {l4 : Option aV} (k : Rn d 0 0 mJ0_length_8abf5 0 [some (vT)] [] h n (fun v h1 n1 => Rn (d + 1) bc bs mX9_readWord 57 [some (vR r0), some (vI x1), some (vI x2), some (vI x3), l4] (v.toList ++ [vI x3]) h1 n1 Q)) : Rn (d + 1) (bc) (bs) mX9_readWord 51 [some (vR r0), some (vI x1), some (vI x2), some (vI x3), l4] [] h n Q := by
  refine Rn_iload_n dX9_readWord_51 rfl rfl ?_
  refine Rn_ldcT rfl dX9_readWord_52 ?_
  exact Rn_callT (avs := []) (st := [vI x3]) (bc1 := 0) (bs1 := 0) (bc2 := bc) (bs2 := bs) fx_J0_length_8abf5 rfl dX9_readWord_54 wd_569 wd_570 wd_571 rfl (Nat.le_of_ble_eq_true rfl) (Nat.le_of_ble_eq_true rfl) (by omega) (by omega) (ls1 := [some (vT)]) rfl k
theorem BX9_readWord_57 {d bc bs : Nat} {h : aH} {n : Nat} {Q : aQ} {r0 : Option Nat} {x1 x2 x3 s0 s1 : Int} {l4 : Option aV} (kt : s1 ≤ s0 → Rn d bc bs mX9_readWord 135 [some (vR r0), some (vI x1), some (vI x2), some (vI x3), l4] [] h n Q) (kf : s0 < s1 → Rn d bc bs mX9_readWord 60 [some (vR r0), some (vI x1), some (vI x2), some (vI x3), l4] [] h n Q) : Rn d (bc) (bs) mX9_readWord 57 [some (vR r0), some (vI x1), some (vI x2), some (vI x3), l4] [vI s1, vI s0] h n Q := by
  refine Rn_icmpge (tgt := 135) dX9_readWord_57 rfl ?_ ?_
  · exact kt
  · exact kf
theorem BX9_readWord_60 {d bc bs : Nat} {h : aH} {n : Nat} {Q : aQ} {r0 : Option Nat} {x1 x2 x3 : Int} {l4 : Option aV} (k : Rn d 0 0 mJ0_charAt_5068e 0 [some (vT), some (vI x3)] [] h n (fun v h1 n1 => Rn (d + 1) bc bs mX9_readWord 66 [some (vR r0), some (vI x1), some (vI x2), some (vI x3), l4] (v.toList ++ []) h1 n1 Q)) : Rn (d + 1) (bc) (bs) mX9_readWord 60 [some (vR r0), some (vI x1), some (vI x2), some (vI x3), l4] [] h n Q := by
  refine Rn_ldcT rfl dX9_readWord_60 ?_
  refine Rn_iload_n dX9_readWord_62 rfl rfl ?_
  exact Rn_callT (avs := [vI x3]) (st := []) (bc1 := 0) (bs1 := 0) (bc2 := bc) (bs2 := bs) fx_J0_charAt_5068e rfl dX9_readWord_63 wd_579 wd_580 wd_581 rfl (Nat.le_of_ble_eq_true rfl) (Nat.le_of_ble_eq_true rfl) (by omega) (by omega) (ls1 := [some (vT), some (vI x3)]) rfl k
theorem BX9_readWord_66 {d bc bs : Nat} {h : aH} {n : Nat} {Q : aQ} {r0 : Option Nat} {x1 x2 x3 s0 : Int} {l4 : Option aV} (kt : s0 ≠ 32 → Rn d bc bs mX9_readWord 101 [some (vR r0), some (vI x1), some (vI x2), some (vI x3), some (vI s0)] [] h n Q) (kf : s0 = 32 → Rn d bc bs mX9_readWord 75 [some (vR r0), some (vI x1), some (vI x2), some (vI x3), some (vI s0)] [] h n Q) : Rn d (bc) (bs) mX9_readWord 66 [some (vR r0), some (vI x1), some (vI x2), some (vI x3), l4] [vI s0] h n Q := by
  refine Rn_istore dX9_readWord_66 (Nat.le_of_ble_eq_true rfl) rfl rfl ?_
  refine Rn_iload dX9_readWord_68 rfl ?_
  refine Rn_bipush dX9_readWord_70 rfl ?_
  refine Rn_icmpne (tgt := 101) dX9_readWord_72 rfl ?_ ?_
  · exact kt
  · exact kf
theorem BX9_readWord_75 {d bc bs : Nat} {h : aH} {n : Nat} {Q : aQ} {ar0 : Nat} {x1 x2 x3 x4 v3 v5 : Int} {f1 : List aV} (h2 : h ar0 = cO 9 f1) (g4 : f1[5]? = some (vI v3)) (g6 : f1[3]? = some (vI v5)) (b7 : -2147483648 ≤ v3 - v5 ∧ v3 - v5 < 2147483648) (kt : x2 ≠ (v3 - v5) → Rn d bc bs mX9_readWord 93 [some (vR (some ar0)), some (vI x1), some (vI x2), some (vI x3), some (vI x4)] [] h n Q) (kf : x2 = (v3 - v5) → Rn d bc bs mX9_readWord 88 [some (vR (some ar0)), some (vI x1), some (vI x2), some (vI x3), some (vI x4)] [] h n Q) : Rn d (bc) (bs) mX9_readWord 75 [some (vR (some ar0)), some (vI x1), some (vI x2), some (vI x3), some (vI x4)] [] h n Q := by
  refine Rn_iload_n dX9_readWord_75 rfl rfl ?_
  refine Rn_aload_n dX9_readWord_76 rfl rfl rfl ?_
  refine Rn_getfield (ci := 9) (k := 5) dX9_readWord_77 rfl in_9 (Nat.le_of_ble_eq_true rfl) wd_335 rfl h2 g4 ?_
  refine Rn_aload_n dX9_readWord_80 rfl rfl rfl ?_
  refine Rn_getfield (ci := 9) (k := 3) dX9_readWord_81 rfl in_9 (Nat.le_of_ble_eq_true rfl) wd_331 rfl h2 g6 ?_
  refine Rn_isub dX9_readWord_84 ?_
  rw [w32_id b7.1 b7.2]
  refine Rn_icmpne (tgt := 93) dX9_readWord_85 rfl ?_ ?_
  · exact kt
  · exact kf
theorem BX9_readWord_88 {d bc bs : Nat} {h : aH} {n : Nat} {Q : aQ} {ar0 : Nat} {x1 x2 x3 x4 : Int} {f1 : List aV} (h2 : h ar0 = cO 9 f1) (m3 : 2 < f1.length) (k : Rn d bc bs mX9_readWord 93 [some (vR (some ar0)), some (vI x1), some (vI x2), some (vI x3), some (vI x4)] [] (up h ar0 (cO 9 (f1.set 2 (vI x1)))) n Q) : Rn d (bc) (bs) mX9_readWord 88 [some (vR (some ar0)), some (vI x1), some (vI x2), some (vI x3), some (vI x4)] [] h n Q := by
  refine Rn_aload_n dX9_readWord_88 rfl rfl rfl ?_
  refine Rn_iload_n dX9_readWord_89 rfl rfl ?_
  refine Rn_putfield (ci := 9) (k := 2) dX9_readWord_90 rfl in_9 tyX9_ok nmX9 (Nat.le_of_ble_eq_true rfl) wd_329 rfl (Or.inl rfl) trivial m3 h2 ?_
  exact k
theorem BX9_readWord_93 {d bc bs : Nat} {h : aH} {n : Nat} {Q : aQ} {r0 : Option Nat} {x1 x2 x3 x4 : Int} (b1 : -2147483648 ≤ x1 + 1 ∧ x1 + 1 < 2147483648) (b2 : -2147483648 ≤ x3 + 1 ∧ x3 + 1 < 2147483648) (k : Rn d bc bs mX9_readWord 51 [some (vR r0), some (vI (x1 + 1)), some (vI 0), some (vI (x3 + 1)), some (vI x4)] [] h n Q) : Rn d (bc) (bs) mX9_readWord 93 [some (vR r0), some (vI x1), some (vI x2), some (vI x3), some (vI x4)] [] h n Q := by
  refine Rn_iinc dX9_readWord_93 rfl (Nat.le_of_ble_eq_true rfl) rfl rfl rfl ?_
  rw [w32_id b1.1 b1.2]
  refine Rn_iconst dX9_readWord_96 rfl ?_
  refine Rn_istore_n dX9_readWord_97 rfl (Nat.le_of_ble_eq_true rfl) rfl rfl ?_
  refine Rn_goto (tgt := 129) dX9_readWord_98 rfl ?_
  refine Rn_iinc dX9_readWord_129 rfl (Nat.le_of_ble_eq_true rfl) rfl rfl rfl ?_
  rw [w32_id b2.1 b2.2]
  refine Rn_goto (tgt := 51) dX9_readWord_132 rfl ?_
  exact k
theorem BX9_readWord_101 {d bc bs : Nat} {h : aH} {n : Nat} {Q : aQ} {r0 : Option Nat} {x1 x2 x3 x4 : Int} (kt : x2 = (-1) → Rn d bc bs mX9_readWord 129 [some (vR r0), some (vI x1), some (vI x2), some (vI x3), some (vI x4)] [] h n Q) (kf : x2 ≠ (-1) → Rn d bc bs mX9_readWord 106 [some (vR r0), some (vI x1), some (vI x2), some (vI x3), some (vI x4)] [] h n Q) : Rn d (bc) (bs) mX9_readWord 101 [some (vR r0), some (vI x1), some (vI x2), some (vI x3), some (vI x4)] [] h n Q := by
  refine Rn_iload_n dX9_readWord_101 rfl rfl ?_
  refine Rn_iconst dX9_readWord_102 rfl ?_
  refine Rn_icmpeq (tgt := 129) dX9_readWord_103 rfl ?_ ?_
  · exact kt
  · exact kf
theorem BX9_readWord_106 {d bc bs : Nat} {h : aH} {n : Nat} {Q : aQ} {ar0 : Nat} {x1 x2 x3 x4 v3 : Int} {f1 : List aV} (h2 : h ar0 = cO 9 f1) (g4 : f1[3]? = some (vI v3)) (b5 : -2147483648 ≤ v3 + x2 ∧ v3 + x2 < 2147483648) (k : Rn d 0 0 mX9_byteAt 0 [some (vR (some ar0)), some (vI (v3 + x2))] [] h n (fun v h1 n1 => Rn (d + 1) bc bs mX9_readWord 116 [some (vR (some ar0)), some (vI x1), some (vI x2), some (vI x3), some (vI x4)] (v.toList ++ []) h1 n1 Q)) : Rn (d + 1) (bc) (bs) mX9_readWord 106 [some (vR (some ar0)), some (vI x1), some (vI x2), some (vI x3), some (vI x4)] [] h n Q := by
  refine Rn_aload_n dX9_readWord_106 rfl rfl rfl ?_
  refine Rn_aload_n dX9_readWord_107 rfl rfl rfl ?_
  refine Rn_getfield (ci := 9) (k := 3) dX9_readWord_108 rfl in_9 (Nat.le_of_ble_eq_true rfl) wd_331 rfl h2 g4 ?_
  refine Rn_iload_n dX9_readWord_111 rfl rfl ?_
  refine Rn_iadd dX9_readWord_112 ?_
  rw [w32_id b5.1 b5.2]
  exact Rn_callV (ci := 9) (avs := [vI (v3 + x2)]) (st := []) (bc1 := 0) (bs1 := 0) (bc2 := bc) (bs2 := bs) fx_X9_byteAt dX9_readWord_113 wd_547 wd_549 wd_0 rfl h2 rfl (Nat.le_of_ble_eq_true rfl) (Nat.le_of_ble_eq_true rfl) (by omega) (by omega) (ls1 := [some (vR (some ar0)), some (vI (v3 + x2))]) rfl k
theorem BX9_readWord_116 {d bc bs : Nat} {h : aH} {n : Nat} {Q : aQ} {r0 : Option Nat} {x1 x2 x3 x4 s0 : Int} (kt : s0 ≠ x4 → Rn d bc bs mX9_readWord 127 [some (vR r0), some (vI x1), some (vI x2), some (vI x3), some (vI x4)] [] h n Q) (kf : s0 = x4 → Rn d bc bs mX9_readWord 121 [some (vR r0), some (vI x1), some (vI x2), some (vI x3), some (vI x4)] [] h n Q) : Rn d (bc) (bs) mX9_readWord 116 [some (vR r0), some (vI x1), some (vI x2), some (vI x3), some (vI x4)] [vI s0] h n Q := by
  refine Rn_iload dX9_readWord_116 rfl ?_
  refine Rn_icmpne (tgt := 127) dX9_readWord_118 rfl ?_ ?_
  · exact kt
  · exact kf
theorem BX9_readWord_121 {d bc bs : Nat} {h : aH} {n : Nat} {Q : aQ} {r0 : Option Nat} {x1 x2 x3 x4 : Int} (b1 : -2147483648 ≤ x2 + 1 ∧ x2 + 1 < 2147483648) (b2 : -2147483648 ≤ x3 + 1 ∧ x3 + 1 < 2147483648) (k : Rn d bc bs mX9_readWord 51 [some (vR r0), some (vI x1), some (vI (x2 + 1)), some (vI (x3 + 1)), some (vI x4)] [] h n Q) : Rn d (bc) (bs) mX9_readWord 121 [some (vR r0), some (vI x1), some (vI x2), some (vI x3), some (vI x4)] [] h n Q := by
  refine Rn_iload_n dX9_readWord_121 rfl rfl ?_
  refine Rn_iconst dX9_readWord_122 rfl ?_
  refine Rn_iadd dX9_readWord_123 ?_
  rw [w32_id b1.1 b1.2]
  refine Rn_goto (tgt := 128) dX9_readWord_124 rfl ?_
  refine Rn_istore_n dX9_readWord_128 rfl (Nat.le_of_ble_eq_true rfl) rfl rfl ?_
  refine Rn_iinc dX9_readWord_129 rfl (Nat.le_of_ble_eq_true rfl) rfl rfl rfl ?_
  rw [w32_id b2.1 b2.2]
  refine Rn_goto (tgt := 51) dX9_readWord_132 rfl ?_
  exact k
theorem BX9_readWord_127 {d bc bs : Nat} {h : aH} {n : Nat} {Q : aQ} {r0 : Option Nat} {x1 x2 x3 x4 : Int} (b1 : -2147483648 ≤ x3 + 1 ∧ x3 + 1 < 2147483648) (k : Rn d bc bs mX9_readWord 51 [some (vR r0), some (vI x1), some (vI (-1)), some (vI (x3 + 1)), some (vI x4)] [] h n Q) : Rn d (bc) (bs) mX9_readWord 127 [some (vR r0), some (vI x1), some (vI x2), some (vI x3), some (vI x4)] [] h n Q := by
  refine Rn_iconst dX9_readWord_127 rfl ?_
  refine Rn_istore_n dX9_readWord_128 rfl (Nat.le_of_ble_eq_true rfl) rfl rfl ?_
  refine Rn_iinc dX9_readWord_129 rfl (Nat.le_of_ble_eq_true rfl) rfl rfl rfl ?_
  rw [w32_id b1.1 b1.2]
  refine Rn_goto (tgt := 51) dX9_readWord_132 rfl ?_
  exact k
theorem BX9_readWord_129 {d bc bs : Nat} {h : aH} {n : Nat} {Q : aQ} {r0 : Option Nat} {x1 x2 x3 x4 : Int} (b1 : -2147483648 ≤ x3 + 1 ∧ x3 + 1 < 2147483648) (k : Rn d bc bs mX9_readWord 51 [some (vR r0), some (vI x1), some (vI x2), some (vI (x3 + 1)), some (vI x4)] [] h n Q) : Rn d (bc) (bs) mX9_readWord 129 [some (vR r0), some (vI x1), some (vI x2), some (vI x3), some (vI x4)] [] h n Q := by
  refine Rn_iinc dX9_readWord_129 rfl (Nat.le_of_ble_eq_true rfl) rfl rfl rfl ?_
  rw [w32_id b1.1 b1.2]
  refine Rn_goto (tgt := 51) dX9_readWord_132 rfl ?_
  exact k
theorem BX9_readWord_135 {d bc bs : Nat} {h : aH} {n : Nat} {Q : aQ} {r0 : Option Nat} {x1 x2 x3 : Int} {l4 : Option aV} (k : Q none h n) : Rn d (bc) (bs) mX9_readWord 135 [some (vR r0), some (vI x1), some (vI x2), some (vI x3), l4] [] h n Q := by
  exact Rn_return rfl dX9_readWord_135 k
theorem dX9_readSign_0 : decode cX9_readSign 0 = .ok (.aload_n 0, 1) := by decide +kernel
theorem dX9_readSign_1 : decode cX9_readSign 1 = .ok (.aload_n 0, 1) := by decide +kernel
theorem dX9_readSign_2 : decode cX9_readSign 2 = .ok (.getfield 28, 3) := by decide +kernel
theorem dX9_readSign_5 : decode cX9_readSign 5 = .ok (.iconst 1, 1) := by decide +kernel
theorem dX9_readSign_6 : decode cX9_readSign 6 = .ok (.iadd, 1) := by decide +kernel
theorem dX9_readSign_7 : decode cX9_readSign 7 = .ok (.invokevirtual 38, 3) := by decide +kernel
theorem dX9_readSign_10 : decode cX9_readSign 10 = .ok (.bipush 61, 2) := by decide +kernel
theorem dX9_readSign_12 : decode cX9_readSign 12 = .ok (.if_icmp .ne 7, 3) := by decide +kernel
theorem dX9_readSign_15 : decode cX9_readSign 15 = .ok (.iconst 1, 1) := by decide +kernel
theorem dX9_readSign_16 : decode cX9_readSign 16 = .ok (.goto 4, 3) := by decide +kernel
theorem dX9_readSign_19 : decode cX9_readSign 19 = .ok (.iconst 0, 1) := by decide +kernel
theorem dX9_readSign_20 : decode cX9_readSign 20 = .ok (.istore_n 2, 1) := by decide +kernel
theorem dX9_readSign_21 : decode cX9_readSign 21 = .ok (.aload_n 0, 1) := by decide +kernel
theorem dX9_readSign_22 : decode cX9_readSign 22 = .ok (.dup, 1) := by decide +kernel
theorem dX9_readSign_23 : decode cX9_readSign 23 = .ok (.getfield 28, 3) := by decide +kernel
theorem dX9_readSign_26 : decode cX9_readSign 26 = .ok (.iconst 1, 1) := by decide +kernel
theorem dX9_readSign_27 : decode cX9_readSign 27 = .ok (.iadd, 1) := by decide +kernel
theorem dX9_readSign_28 : decode cX9_readSign 28 = .ok (.putfield 28, 3) := by decide +kernel
theorem dX9_readSign_31 : decode cX9_readSign 31 = .ok (.aload_n 0, 1) := by decide +kernel
theorem dX9_readSign_32 : decode cX9_readSign 32 = .ok (.iload_n 1, 1) := by decide +kernel
theorem dX9_readSign_33 : decode cX9_readSign 33 = .ok (.invokestatic 76, 3) := by decide +kernel
theorem dX9_readSign_36 : decode cX9_readSign 36 = .ok (.putfield 19, 3) := by decide +kernel
theorem dX9_readSign_39 : decode cX9_readSign 39 = .ok (.iload_n 2, 1) := by decide +kernel
theorem dX9_readSign_40 : decode cX9_readSign 40 = .ok (.ifCond .ne 4, 3) := by decide +kernel
theorem dX9_readSign_43 : decode cX9_readSign 43 = .ok (.return_, 1) := by decide +kernel
theorem dX9_readSign_44 : decode cX9_readSign 44 = .ok (.aload_n 0, 1) := by decide +kernel
theorem dX9_readSign_45 : decode cX9_readSign 45 = .ok (.getfield 19, 3) := by decide +kernel
theorem dX9_readSign_48 : decode cX9_readSign 48 = .ok (.iconst 5, 1) := by decide +kernel
theorem dX9_readSign_49 : decode cX9_readSign 49 = .ok (.if_icmp .ne 21, 3) := by decide +kernel
theorem dX9_readSign_52 : decode cX9_readSign 52 = .ok (.aload_n 0, 1) := by decide +kernel
theorem dX9_readSign_53 : decode cX9_readSign 53 = .ok (.iconst 3, 1) := by decide +kernel
theorem dX9_readSign_54 : decode cX9_readSign 54 = .ok (.putfield 19, 3) := by decide +kernel
theorem dX9_readSign_57 : decode cX9_readSign 57 = .ok (.aload_n 0, 1) := by decide +kernel
theorem dX9_readSign_58 : decode cX9_readSign 58 = .ok (.dup, 1) := by decide +kernel
theorem dX9_readSign_59 : decode cX9_readSign 59 = .ok (.getfield 28, 3) := by decide +kernel
theorem dX9_readSign_62 : decode cX9_readSign 62 = .ok (.iconst 1, 1) := by decide +kernel
theorem dX9_readSign_63 : decode cX9_readSign 63 = .ok (.iadd, 1) := by decide +kernel
theorem dX9_readSign_64 : decode cX9_readSign 64 = .ok (.putfield 28, 3) := by decide +kernel
theorem dX9_readSign_67 : decode cX9_readSign 67 = .ok (.goto 27, 3) := by decide +kernel
theorem dX9_readSign_70 : decode cX9_readSign 70 = .ok (.aload_n 0, 1) := by decide +kernel
theorem dX9_readSign_71 : decode cX9_readSign 71 = .ok (.getfield 19, 3) := by decide +kernel
theorem dX9_readSign_74 : decode cX9_readSign 74 = .ok (.bipush 6, 2) := by decide +kernel
theorem dX9_readSign_76 : decode cX9_readSign 76 = .ok (.if_icmp .ne 18, 3) := by decide +kernel
theorem dX9_readSign_79 : decode cX9_readSign 79 = .ok (.aload_n 0, 1) := by decide +kernel
theorem dX9_readSign_80 : decode cX9_readSign 80 = .ok (.iconst 4, 1) := by decide +kernel
theorem dX9_readSign_81 : decode cX9_readSign 81 = .ok (.putfield 19, 3) := by decide +kernel
theorem dX9_readSign_84 : decode cX9_readSign 84 = .ok (.aload_n 0, 1) := by decide +kernel
theorem dX9_readSign_85 : decode cX9_readSign 85 = .ok (.dup, 1) := by decide +kernel
theorem dX9_readSign_86 : decode cX9_readSign 86 = .ok (.getfield 28, 3) := by decide +kernel
theorem dX9_readSign_89 : decode cX9_readSign 89 = .ok (.iconst 1, 1) := by decide +kernel
theorem dX9_readSign_90 : decode cX9_readSign 90 = .ok (.iadd, 1) := by decide +kernel
theorem dX9_readSign_91 : decode cX9_readSign 91 = .ok (.putfield 28, 3) := by decide +kernel
theorem dX9_readSign_94 : decode cX9_readSign 94 = .ok (.return_, 1) := by decide +kernel
theorem BX9_readSign_0 {d bc bs : Nat} {h : aH} {n : Nat} {Q : aQ} {ar0 : Nat} {x1 v3 : Int} {l2 : Option aV} {f1 : List aV} (h2 : h ar0 = cO 9 f1) (g4 : f1[5]? = some (vI v3)) (b5 : -2147483648 ≤ v3 + 1 ∧ v3 + 1 < 2147483648) (k : Rn d 0 0 mX9_byteAt 0 [some (vR (some ar0)), some (vI (v3 + 1))] [] h n (fun v h1 n1 => Rn (d + 1) bc bs mX9_readSign 10 [some (vR (some ar0)), some (vI x1), l2] (v.toList ++ []) h1 n1 Q)) : Rn (d + 1) (bc) (bs) mX9_readSign 0 [some (vR (some ar0)), some (vI x1), l2] [] h n Q := by
  refine Rn_aload_n dX9_readSign_0 rfl rfl rfl ?_
  refine Rn_aload_n dX9_readSign_1 rfl rfl rfl ?_
  refine Rn_getfield (ci := 9) (k := 5) dX9_readSign_2 rfl in_9 (Nat.le_of_ble_eq_true rfl) wd_335 rfl h2 g4 ?_
  refine Rn_iconst dX9_readSign_5 rfl ?_
  refine Rn_iadd dX9_readSign_6 ?_
  rw [w32_id b5.1 b5.2]
  exact Rn_callV (ci := 9) (avs := [vI (v3 + 1)]) (st := []) (bc1 := 0) (bs1 := 0) (bc2 := bc) (bs2 := bs) fx_X9_byteAt dX9_readSign_7 wd_547 wd_549 wd_0 rfl h2 rfl (Nat.le_of_ble_eq_true rfl) (Nat.le_of_ble_eq_true rfl) (by omega) (by omega) (ls1 := [some (vR (some ar0)), some (vI (v3 + 1))]) rfl k
theorem BX9_readSign_10 {d bc bs : Nat} {h : aH} {n : Nat} {Q : aQ} {r0 : Option Nat} {x1 s0 : Int} {l2 : Option aV} (kt : s0 ≠ 61 → Rn d bc bs mX9_readSign 19 [some (vR r0), some (vI x1), l2] [] h n Q) (kf : s0 = 61 → Rn d bc bs mX9_readSign 15 [some (vR r0), some (vI x1), l2] [] h n Q) : Rn d (bc) (bs) mX9_readSign 10 [some (vR r0), some (vI x1), l2] [vI s0] h n Q := by
  refine Rn_bipush dX9_readSign_10 rfl ?_
  refine Rn_icmpne (tgt := 19) dX9_readSign_12 rfl ?_ ?_
  · exact kt
  · exact kf
theorem BX9_readSign_15 {d bc bs : Nat} {h : aH} {n : Nat} {Q : aQ} {ar0 : Nat} {x1 v3 : Int} {l2 : Option aV} {f1 : List aV} (h2 : h ar0 = cO 9 f1) (g4 : f1[5]? = some (vI v3)) (b5 : -2147483648 ≤ v3 + 1 ∧ v3 + 1 < 2147483648) (m6 : 5 < f1.length) (k : Rn d bc bs mX9_readSign 31 [some (vR (some ar0)), some (vI x1), some (vI 1)] [] (up h ar0 (cO 9 (f1.set 5 (vI (v3 + 1))))) n Q) : Rn d (bc) (bs) mX9_readSign 15 [some (vR (some ar0)), some (vI x1), l2] [] h n Q := by
  refine Rn_iconst dX9_readSign_15 rfl ?_
  refine Rn_goto (tgt := 20) dX9_readSign_16 rfl ?_
  refine Rn_istore_n dX9_readSign_20 rfl (Nat.le_of_ble_eq_true rfl) rfl rfl ?_
  refine Rn_aload_n dX9_readSign_21 rfl rfl rfl ?_
  refine Rn_dup dX9_readSign_22 rfl ?_
  refine Rn_getfield (ci := 9) (k := 5) dX9_readSign_23 rfl in_9 (Nat.le_of_ble_eq_true rfl) wd_335 rfl h2 g4 ?_
  refine Rn_iconst dX9_readSign_26 rfl ?_
  refine Rn_iadd dX9_readSign_27 ?_
  rw [w32_id b5.1 b5.2]
  refine Rn_putfield (ci := 9) (k := 5) dX9_readSign_28 rfl in_9 tyX9_ok nmX9 (Nat.le_of_ble_eq_true rfl) wd_335 rfl (Or.inl rfl) trivial m6 h2 ?_
  exact k
theorem BX9_readSign_19 {d bc bs : Nat} {h : aH} {n : Nat} {Q : aQ} {ar0 : Nat} {x1 v3 : Int} {l2 : Option aV} {f1 : List aV} (h2 : h ar0 = cO 9 f1) (g4 : f1[5]? = some (vI v3)) (b5 : -2147483648 ≤ v3 + 1 ∧ v3 + 1 < 2147483648) (m6 : 5 < f1.length) (k : Rn d bc bs mX9_readSign 31 [some (vR (some ar0)), some (vI x1), some (vI 0)] [] (up h ar0 (cO 9 (f1.set 5 (vI (v3 + 1))))) n Q) : Rn d (bc) (bs) mX9_readSign 19 [some (vR (some ar0)), some (vI x1), l2] [] h n Q := by
  refine Rn_iconst dX9_readSign_19 rfl ?_
  refine Rn_istore_n dX9_readSign_20 rfl (Nat.le_of_ble_eq_true rfl) rfl rfl ?_
  refine Rn_aload_n dX9_readSign_21 rfl rfl rfl ?_
  refine Rn_dup dX9_readSign_22 rfl ?_
  refine Rn_getfield (ci := 9) (k := 5) dX9_readSign_23 rfl in_9 (Nat.le_of_ble_eq_true rfl) wd_335 rfl h2 g4 ?_
  refine Rn_iconst dX9_readSign_26 rfl ?_
  refine Rn_iadd dX9_readSign_27 ?_
  rw [w32_id b5.1 b5.2]
  refine Rn_putfield (ci := 9) (k := 5) dX9_readSign_28 rfl in_9 tyX9_ok nmX9 (Nat.le_of_ble_eq_true rfl) wd_335 rfl (Or.inl rfl) trivial m6 h2 ?_
  exact k
theorem BX9_readSign_31 {d bc bs : Nat} {h : aH} {n : Nat} {Q : aQ} {r0 : Option Nat} {x1 x2 : Int} (k : Rn d 0 0 mX9_signKind 0 [some (vI x1)] [] h n (fun v h1 n1 => Rn (d + 1) bc bs mX9_readSign 36 [some (vR r0), some (vI x1), some (vI x2)] (v.toList ++ [vR r0]) h1 n1 Q)) : Rn (d + 1) (bc) (bs) mX9_readSign 31 [some (vR r0), some (vI x1), some (vI x2)] [] h n Q := by
  refine Rn_aload_n dX9_readSign_31 rfl rfl rfl ?_
  refine Rn_iload_n dX9_readSign_32 rfl rfl ?_
  exact Rn_callS (avs := [vI x1]) (st := [vR r0]) (bc1 := 0) (bs1 := 0) (bc2 := bc) (bs2 := bs) fx_X9_signKind dX9_readSign_33 (Or.inl wd_621) wd_622 rfl (Nat.le_of_ble_eq_true rfl) (Nat.le_of_ble_eq_true rfl) (by omega) (by omega) (ls1 := [some (vI x1)]) rfl k
theorem BX9_readSign_36 {d bc bs : Nat} {h : aH} {n : Nat} {Q : aQ} {r0 : Option Nat} {x1 x2 s1 : Int} {aq0 : Nat} {f1 : List aV} (h2 : h aq0 = cO 9 f1) (m3 : 2 < f1.length) (k : Rn d bc bs mX9_readSign 39 [some (vR r0), some (vI x1), some (vI x2)] [] (up h aq0 (cO 9 (f1.set 2 (vI s1)))) n Q) : Rn d (bc) (bs) mX9_readSign 36 [some (vR r0), some (vI x1), some (vI x2)] [vI s1, vR (some aq0)] h n Q := by
  refine Rn_putfield (ci := 9) (k := 2) dX9_readSign_36 rfl in_9 tyX9_ok nmX9 (Nat.le_of_ble_eq_true rfl) wd_329 rfl (Or.inl rfl) trivial m3 h2 ?_
  exact k
theorem BX9_readSign_39 {d bc bs : Nat} {h : aH} {n : Nat} {Q : aQ} {r0 : Option Nat} {x1 x2 : Int} (kt : x2 ≠ 0 → Rn d bc bs mX9_readSign 44 [some (vR r0), some (vI x1), some (vI x2)] [] h n Q) (kf : x2 = 0 → Rn d bc bs mX9_readSign 43 [some (vR r0), some (vI x1), some (vI x2)] [] h n Q) : Rn d (bc) (bs) mX9_readSign 39 [some (vR r0), some (vI x1), some (vI x2)] [] h n Q := by
  refine Rn_iload_n dX9_readSign_39 rfl rfl ?_
  refine Rn_ifne (tgt := 44) dX9_readSign_40 rfl ?_ ?_
  · exact kt
  · exact kf
theorem BX9_readSign_43 {d bc bs : Nat} {h : aH} {n : Nat} {Q : aQ} {r0 : Option Nat} {x1 x2 : Int} (k : Q none h n) : Rn d (bc) (bs) mX9_readSign 43 [some (vR r0), some (vI x1), some (vI x2)] [] h n Q := by
  exact Rn_return rfl dX9_readSign_43 k
theorem BX9_readSign_44 {d bc bs : Nat} {h : aH} {n : Nat} {Q : aQ} {ar0 : Nat} {x1 x2 v3 : Int} {f1 : List aV} (h2 : h ar0 = cO 9 f1) (g4 : f1[2]? = some (vI v3)) (kt : v3 ≠ 5 → Rn d bc bs mX9_readSign 70 [some (vR (some ar0)), some (vI x1), some (vI x2)] [] h n Q) (kf : v3 = 5 → Rn d bc bs mX9_readSign 52 [some (vR (some ar0)), some (vI x1), some (vI x2)] [] h n Q) : Rn d (bc) (bs) mX9_readSign 44 [some (vR (some ar0)), some (vI x1), some (vI x2)] [] h n Q := by
  refine Rn_aload_n dX9_readSign_44 rfl rfl rfl ?_
  refine Rn_getfield (ci := 9) (k := 2) dX9_readSign_45 rfl in_9 (Nat.le_of_ble_eq_true rfl) wd_329 rfl h2 g4 ?_
  refine Rn_iconst dX9_readSign_48 rfl ?_
  refine Rn_icmpne (tgt := 70) dX9_readSign_49 rfl ?_ ?_
  · exact kt
  · exact kf
theorem BX9_readSign_52 {d bc bs : Nat} {h : aH} {n : Nat} {Q : aQ} {ar0 : Nat} {x1 x2 : Int} {f1 : List aV} (h2 : h ar0 = cO 9 f1) (m3 : 2 < f1.length) (k : Rn d bc bs mX9_readSign 57 [some (vR (some ar0)), some (vI x1), some (vI x2)] [] (up h ar0 (cO 9 (f1.set 2 (vI 3)))) n Q) : Rn d (bc) (bs) mX9_readSign 52 [some (vR (some ar0)), some (vI x1), some (vI x2)] [] h n Q := by
  refine Rn_aload_n dX9_readSign_52 rfl rfl rfl ?_
  refine Rn_iconst dX9_readSign_53 rfl ?_
  refine Rn_putfield (ci := 9) (k := 2) dX9_readSign_54 rfl in_9 tyX9_ok nmX9 (Nat.le_of_ble_eq_true rfl) wd_329 rfl (Or.inl rfl) trivial m3 h2 ?_
  exact k
theorem BX9_readSign_57 {d bc bs : Nat} {h : aH} {n : Nat} {Q : aQ} {ar0 : Nat} {x1 x2 v3 : Int} {f1 : List aV} (h2 : h ar0 = cO 9 f1) (g4 : f1[5]? = some (vI v3)) (b5 : -2147483648 ≤ v3 + 1 ∧ v3 + 1 < 2147483648) (m6 : 5 < f1.length) (k : Rn d bc bs mX9_readSign 67 [some (vR (some ar0)), some (vI x1), some (vI x2)] [] (up h ar0 (cO 9 (f1.set 5 (vI (v3 + 1))))) n Q) : Rn d (bc) (bs) mX9_readSign 57 [some (vR (some ar0)), some (vI x1), some (vI x2)] [] h n Q := by
  refine Rn_aload_n dX9_readSign_57 rfl rfl rfl ?_
  refine Rn_dup dX9_readSign_58 rfl ?_
  refine Rn_getfield (ci := 9) (k := 5) dX9_readSign_59 rfl in_9 (Nat.le_of_ble_eq_true rfl) wd_335 rfl h2 g4 ?_
  refine Rn_iconst dX9_readSign_62 rfl ?_
  refine Rn_iadd dX9_readSign_63 ?_
  rw [w32_id b5.1 b5.2]
  refine Rn_putfield (ci := 9) (k := 5) dX9_readSign_64 rfl in_9 tyX9_ok nmX9 (Nat.le_of_ble_eq_true rfl) wd_335 rfl (Or.inl rfl) trivial m6 h2 ?_
  exact k
theorem BX9_readSign_67 {d bc bs : Nat} {h : aH} {n : Nat} {Q : aQ} {r0 : Option Nat} {x1 x2 : Int} (k : Q none h n) : Rn d (bc) (bs) mX9_readSign 67 [some (vR r0), some (vI x1), some (vI x2)] [] h n Q := by
  refine Rn_goto (tgt := 94) dX9_readSign_67 rfl ?_
  exact Rn_return rfl dX9_readSign_94 k
theorem BX9_readSign_70 {d bc bs : Nat} {h : aH} {n : Nat} {Q : aQ} {ar0 : Nat} {x1 x2 v3 : Int} {f1 : List aV} (h2 : h ar0 = cO 9 f1) (g4 : f1[2]? = some (vI v3)) (kt : v3 ≠ 6 → Rn d bc bs mX9_readSign 94 [some (vR (some ar0)), some (vI x1), some (vI x2)] [] h n Q) (kf : v3 = 6 → Rn d bc bs mX9_readSign 79 [some (vR (some ar0)), some (vI x1), some (vI x2)] [] h n Q) : Rn d (bc) (bs) mX9_readSign 70 [some (vR (some ar0)), some (vI x1), some (vI x2)] [] h n Q := by
  refine Rn_aload_n dX9_readSign_70 rfl rfl rfl ?_
  refine Rn_getfield (ci := 9) (k := 2) dX9_readSign_71 rfl in_9 (Nat.le_of_ble_eq_true rfl) wd_329 rfl h2 g4 ?_
  refine Rn_bipush dX9_readSign_74 rfl ?_
  refine Rn_icmpne (tgt := 94) dX9_readSign_76 rfl ?_ ?_
  · exact kt
  · exact kf
theorem BX9_readSign_79 {d bc bs : Nat} {h : aH} {n : Nat} {Q : aQ} {ar0 : Nat} {x1 x2 : Int} {f1 : List aV} (h2 : h ar0 = cO 9 f1) (m3 : 2 < f1.length) (k : Rn d bc bs mX9_readSign 84 [some (vR (some ar0)), some (vI x1), some (vI x2)] [] (up h ar0 (cO 9 (f1.set 2 (vI 4)))) n Q) : Rn d (bc) (bs) mX9_readSign 79 [some (vR (some ar0)), some (vI x1), some (vI x2)] [] h n Q := by
  refine Rn_aload_n dX9_readSign_79 rfl rfl rfl ?_
  refine Rn_iconst dX9_readSign_80 rfl ?_
  refine Rn_putfield (ci := 9) (k := 2) dX9_readSign_81 rfl in_9 tyX9_ok nmX9 (Nat.le_of_ble_eq_true rfl) wd_329 rfl (Or.inl rfl) trivial m3 h2 ?_
  exact k
theorem BX9_readSign_84 {d bc bs : Nat} {h : aH} {n : Nat} {Q : aQ} {ar0 : Nat} {x1 x2 v3 : Int} {f1 : List aV} (h2 : h ar0 = cO 9 f1) (g4 : f1[5]? = some (vI v3)) (b5 : -2147483648 ≤ v3 + 1 ∧ v3 + 1 < 2147483648) (m6 : 5 < f1.length) (k : Rn d bc bs mX9_readSign 94 [some (vR (some ar0)), some (vI x1), some (vI x2)] [] (up h ar0 (cO 9 (f1.set 5 (vI (v3 + 1))))) n Q) : Rn d (bc) (bs) mX9_readSign 84 [some (vR (some ar0)), some (vI x1), some (vI x2)] [] h n Q := by
  refine Rn_aload_n dX9_readSign_84 rfl rfl rfl ?_
  refine Rn_dup dX9_readSign_85 rfl ?_
  refine Rn_getfield (ci := 9) (k := 5) dX9_readSign_86 rfl in_9 (Nat.le_of_ble_eq_true rfl) wd_335 rfl h2 g4 ?_
  refine Rn_iconst dX9_readSign_89 rfl ?_
  refine Rn_iadd dX9_readSign_90 ?_
  rw [w32_id b5.1 b5.2]
  refine Rn_putfield (ci := 9) (k := 5) dX9_readSign_91 rfl in_9 tyX9_ok nmX9 (Nat.le_of_ble_eq_true rfl) wd_335 rfl (Or.inl rfl) trivial m6 h2 ?_
  exact k
theorem BX9_readSign_94 {d bc bs : Nat} {h : aH} {n : Nat} {Q : aQ} {r0 : Option Nat} {x1 x2 : Int} (k : Q none h n) : Rn d (bc) (bs) mX9_readSign 94 [some (vR r0), some (vI x1), some (vI x2)] [] h n Q := by
  exact Rn_return rfl dX9_readSign_94 k
theorem dX9_signKind_0 : decode cX9_signKind 0 = .ok (.iload_n 0, 1) := by decide +kernel
theorem dX9_signKind_1 : decode cX9_signKind 1 = .ok (.tableswitch 159 35 62 #[135, 159, 159, 159, 159, 150, 153, 144, 138, 159, 141, 159, 147, 159, 159, 159, 159, 159, 159, 159, 159, 159, 159, 159, 156, 127, 132, 129], 127) := by decide +kernel
theorem dX9_signKind_128 : decode cX9_signKind 128 = .ok (.iconst 5, 1) := by decide +kernel
theorem dX9_signKind_129 : decode cX9_signKind 129 = .ok (.ireturn, 1) := by decide +kernel
theorem dX9_signKind_130 : decode cX9_signKind 130 = .ok (.bipush 6, 2) := by decide +kernel
theorem dX9_signKind_132 : decode cX9_signKind 132 = .ok (.ireturn, 1) := by decide +kernel
theorem dX9_signKind_133 : decode cX9_signKind 133 = .ok (.bipush 7, 2) := by decide +kernel
theorem dX9_signKind_135 : decode cX9_signKind 135 = .ok (.ireturn, 1) := by decide +kernel
theorem dX9_signKind_136 : decode cX9_signKind 136 = .ok (.bipush 8, 2) := by decide +kernel
theorem dX9_signKind_138 : decode cX9_signKind 138 = .ok (.ireturn, 1) := by decide +kernel
theorem dX9_signKind_139 : decode cX9_signKind 139 = .ok (.bipush 9, 2) := by decide +kernel
theorem dX9_signKind_141 : decode cX9_signKind 141 = .ok (.ireturn, 1) := by decide +kernel
theorem dX9_signKind_142 : decode cX9_signKind 142 = .ok (.bipush 10, 2) := by decide +kernel
theorem dX9_signKind_144 : decode cX9_signKind 144 = .ok (.ireturn, 1) := by decide +kernel
theorem dX9_signKind_145 : decode cX9_signKind 145 = .ok (.bipush 11, 2) := by decide +kernel
theorem dX9_signKind_147 : decode cX9_signKind 147 = .ok (.ireturn, 1) := by decide +kernel
theorem dX9_signKind_148 : decode cX9_signKind 148 = .ok (.bipush 12, 2) := by decide +kernel
theorem dX9_signKind_150 : decode cX9_signKind 150 = .ok (.ireturn, 1) := by decide +kernel
theorem dX9_signKind_151 : decode cX9_signKind 151 = .ok (.bipush 13, 2) := by decide +kernel
theorem dX9_signKind_153 : decode cX9_signKind 153 = .ok (.ireturn, 1) := by decide +kernel
theorem dX9_signKind_154 : decode cX9_signKind 154 = .ok (.bipush 14, 2) := by decide +kernel
theorem dX9_signKind_156 : decode cX9_signKind 156 = .ok (.ireturn, 1) := by decide +kernel
theorem dX9_signKind_157 : decode cX9_signKind 157 = .ok (.bipush 15, 2) := by decide +kernel
theorem dX9_signKind_159 : decode cX9_signKind 159 = .ok (.ireturn, 1) := by decide +kernel
theorem dX9_signKind_160 : decode cX9_signKind 160 = .ok (.iconst 1, 1) := by decide +kernel
theorem dX9_signKind_161 : decode cX9_signKind 161 = .ok (.ireturn, 1) := by decide +kernel
theorem BX9_signKind_0 {d bc bs : Nat} {h : aH} {n : Nat} {Q : aQ} {x0 : Int} (kd : (x0 < 35 ∨ 62 < x0) → Rn d bc bs mX9_signKind 160 [some (vI x0)] [] h n Q) (k35 : x0 = 35 → Rn d bc bs mX9_signKind 136 [some (vI x0)] [] h n Q) (k36 : x0 = 36 → Rn d bc bs mX9_signKind 160 [some (vI x0)] [] h n Q) (k37 : x0 = 37 → Rn d bc bs mX9_signKind 160 [some (vI x0)] [] h n Q) (k38 : x0 = 38 → Rn d bc bs mX9_signKind 160 [some (vI x0)] [] h n Q) (k39 : x0 = 39 → Rn d bc bs mX9_signKind 160 [some (vI x0)] [] h n Q) (k40 : x0 = 40 → Rn d bc bs mX9_signKind 151 [some (vI x0)] [] h n Q) (k41 : x0 = 41 → Rn d bc bs mX9_signKind 154 [some (vI x0)] [] h n Q) (k42 : x0 = 42 → Rn d bc bs mX9_signKind 145 [some (vI x0)] [] h n Q) (k43 : x0 = 43 → Rn d bc bs mX9_signKind 139 [some (vI x0)] [] h n Q) (k44 : x0 = 44 → Rn d bc bs mX9_signKind 160 [some (vI x0)] [] h n Q) (k45 : x0 = 45 → Rn d bc bs mX9_signKind 142 [some (vI x0)] [] h n Q) (k46 : x0 = 46 → Rn d bc bs mX9_signKind 160 [some (vI x0)] [] h n Q) (k47 : x0 = 47 → Rn d bc bs mX9_signKind 148 [some (vI x0)] [] h n Q) (k48 : x0 = 48 → Rn d bc bs mX9_signKind 160 [some (vI x0)] [] h n Q) (k49 : x0 = 49 → Rn d bc bs mX9_signKind 160 [some (vI x0)] [] h n Q) (k50 : x0 = 50 → Rn d bc bs mX9_signKind 160 [some (vI x0)] [] h n Q) (k51 : x0 = 51 → Rn d bc bs mX9_signKind 160 [some (vI x0)] [] h n Q) (k52 : x0 = 52 → Rn d bc bs mX9_signKind 160 [some (vI x0)] [] h n Q) (k53 : x0 = 53 → Rn d bc bs mX9_signKind 160 [some (vI x0)] [] h n Q) (k54 : x0 = 54 → Rn d bc bs mX9_signKind 160 [some (vI x0)] [] h n Q) (k55 : x0 = 55 → Rn d bc bs mX9_signKind 160 [some (vI x0)] [] h n Q) (k56 : x0 = 56 → Rn d bc bs mX9_signKind 160 [some (vI x0)] [] h n Q) (k57 : x0 = 57 → Rn d bc bs mX9_signKind 160 [some (vI x0)] [] h n Q) (k58 : x0 = 58 → Rn d bc bs mX9_signKind 160 [some (vI x0)] [] h n Q) (k59 : x0 = 59 → Rn d bc bs mX9_signKind 157 [some (vI x0)] [] h n Q) (k60 : x0 = 60 → Rn d bc bs mX9_signKind 128 [some (vI x0)] [] h n Q) (k61 : x0 = 61 → Rn d bc bs mX9_signKind 133 [some (vI x0)] [] h n Q) (k62 : x0 = 62 → Rn d bc bs mX9_signKind 130 [some (vI x0)] [] h n Q) : Rn d (bc) (bs) mX9_signKind 0 [some (vI x0)] [] h n Q := by
  refine Rn_iload_n dX9_signKind_0 rfl rfl ?_
  by_cases hq : x0 < 35 ∨ 62 < x0
  · exact Rn_tableOut (tgt := 160) dX9_signKind_1 hq rfl (kd hq)
  rcases (show x0 = 35 ∨ x0 = 36 ∨ x0 = 37 ∨ x0 = 38 ∨ x0 = 39 ∨ x0 = 40 ∨ x0 = 41 ∨ x0 = 42 ∨ x0 = 43 ∨ x0 = 44 ∨ x0 = 45 ∨ x0 = 46 ∨ x0 = 47 ∨ x0 = 48 ∨ x0 = 49 ∨ x0 = 50 ∨ x0 = 51 ∨ x0 = 52 ∨ x0 = 53 ∨ x0 = 54 ∨ x0 = 55 ∨ x0 = 56 ∨ x0 = 57 ∨ x0 = 58 ∨ x0 = 59 ∨ x0 = 60 ∨ x0 = 61 ∨ x0 = 62 by omega) with hz | hz | hz | hz | hz | hz | hz | hz | hz | hz | hz | hz | hz | hz | hz | hz | hz | hz | hz | hz | hz | hz | hz | hz | hz | hz | hz | hz
  · exact Rn_tableIn (tgt := 136) dX9_signKind_1 (by omega) (by omega) (by rw [hz] <;> rfl) rfl (k35 hz)
  · exact Rn_tableIn (tgt := 160) dX9_signKind_1 (by omega) (by omega) (by rw [hz] <;> rfl) rfl (k36 hz)
  · exact Rn_tableIn (tgt := 160) dX9_signKind_1 (by omega) (by omega) (by rw [hz] <;> rfl) rfl (k37 hz)
  · exact Rn_tableIn (tgt := 160) dX9_signKind_1 (by omega) (by omega) (by rw [hz] <;> rfl) rfl (k38 hz)
  · exact Rn_tableIn (tgt := 160) dX9_signKind_1 (by omega) (by omega) (by rw [hz] <;> rfl) rfl (k39 hz)
  · exact Rn_tableIn (tgt := 151) dX9_signKind_1 (by omega) (by omega) (by rw [hz] <;> rfl) rfl (k40 hz)
  · exact Rn_tableIn (tgt := 154) dX9_signKind_1 (by omega) (by omega) (by rw [hz] <;> rfl) rfl (k41 hz)
  · exact Rn_tableIn (tgt := 145) dX9_signKind_1 (by omega) (by omega) (by rw [hz] <;> rfl) rfl (k42 hz)
  · exact Rn_tableIn (tgt := 139) dX9_signKind_1 (by omega) (by omega) (by rw [hz] <;> rfl) rfl (k43 hz)
  · exact Rn_tableIn (tgt := 160) dX9_signKind_1 (by omega) (by omega) (by rw [hz] <;> rfl) rfl (k44 hz)
  · exact Rn_tableIn (tgt := 142) dX9_signKind_1 (by omega) (by omega) (by rw [hz] <;> rfl) rfl (k45 hz)
  · exact Rn_tableIn (tgt := 160) dX9_signKind_1 (by omega) (by omega) (by rw [hz] <;> rfl) rfl (k46 hz)
  · exact Rn_tableIn (tgt := 148) dX9_signKind_1 (by omega) (by omega) (by rw [hz] <;> rfl) rfl (k47 hz)
  · exact Rn_tableIn (tgt := 160) dX9_signKind_1 (by omega) (by omega) (by rw [hz] <;> rfl) rfl (k48 hz)
  · exact Rn_tableIn (tgt := 160) dX9_signKind_1 (by omega) (by omega) (by rw [hz] <;> rfl) rfl (k49 hz)
  · exact Rn_tableIn (tgt := 160) dX9_signKind_1 (by omega) (by omega) (by rw [hz] <;> rfl) rfl (k50 hz)
  · exact Rn_tableIn (tgt := 160) dX9_signKind_1 (by omega) (by omega) (by rw [hz] <;> rfl) rfl (k51 hz)
  · exact Rn_tableIn (tgt := 160) dX9_signKind_1 (by omega) (by omega) (by rw [hz] <;> rfl) rfl (k52 hz)
  · exact Rn_tableIn (tgt := 160) dX9_signKind_1 (by omega) (by omega) (by rw [hz] <;> rfl) rfl (k53 hz)
  · exact Rn_tableIn (tgt := 160) dX9_signKind_1 (by omega) (by omega) (by rw [hz] <;> rfl) rfl (k54 hz)
  · exact Rn_tableIn (tgt := 160) dX9_signKind_1 (by omega) (by omega) (by rw [hz] <;> rfl) rfl (k55 hz)
  · exact Rn_tableIn (tgt := 160) dX9_signKind_1 (by omega) (by omega) (by rw [hz] <;> rfl) rfl (k56 hz)
  · exact Rn_tableIn (tgt := 160) dX9_signKind_1 (by omega) (by omega) (by rw [hz] <;> rfl) rfl (k57 hz)
  · exact Rn_tableIn (tgt := 160) dX9_signKind_1 (by omega) (by omega) (by rw [hz] <;> rfl) rfl (k58 hz)
  · exact Rn_tableIn (tgt := 157) dX9_signKind_1 (by omega) (by omega) (by rw [hz] <;> rfl) rfl (k59 hz)
  · exact Rn_tableIn (tgt := 128) dX9_signKind_1 (by omega) (by omega) (by rw [hz] <;> rfl) rfl (k60 hz)
  · exact Rn_tableIn (tgt := 133) dX9_signKind_1 (by omega) (by omega) (by rw [hz] <;> rfl) rfl (k61 hz)
  · exact Rn_tableIn (tgt := 130) dX9_signKind_1 (by omega) (by omega) (by rw [hz] <;> rfl) rfl (k62 hz)
theorem BX9_signKind_128 {d bc bs : Nat} {h : aH} {n : Nat} {Q : aQ} {x0 : Int} (k : Q (some (vI 5)) h n) : Rn d (bc) (bs) mX9_signKind 128 [some (vI x0)] [] h n Q := by
  refine Rn_iconst dX9_signKind_128 rfl ?_
  exact Rn_ireturn rfl dX9_signKind_129 k
theorem BX9_signKind_130 {d bc bs : Nat} {h : aH} {n : Nat} {Q : aQ} {x0 : Int} (k : Q (some (vI 6)) h n) : Rn d (bc) (bs) mX9_signKind 130 [some (vI x0)] [] h n Q := by
  refine Rn_bipush dX9_signKind_130 rfl ?_
  exact Rn_ireturn rfl dX9_signKind_132 k
theorem BX9_signKind_133 {d bc bs : Nat} {h : aH} {n : Nat} {Q : aQ} {x0 : Int} (k : Q (some (vI 7)) h n) : Rn d (bc) (bs) mX9_signKind 133 [some (vI x0)] [] h n Q := by
  refine Rn_bipush dX9_signKind_133 rfl ?_
  exact Rn_ireturn rfl dX9_signKind_135 k
theorem BX9_signKind_136 {d bc bs : Nat} {h : aH} {n : Nat} {Q : aQ} {x0 : Int} (k : Q (some (vI 8)) h n) : Rn d (bc) (bs) mX9_signKind 136 [some (vI x0)] [] h n Q := by
  refine Rn_bipush dX9_signKind_136 rfl ?_
  exact Rn_ireturn rfl dX9_signKind_138 k
theorem BX9_signKind_139 {d bc bs : Nat} {h : aH} {n : Nat} {Q : aQ} {x0 : Int} (k : Q (some (vI 9)) h n) : Rn d (bc) (bs) mX9_signKind 139 [some (vI x0)] [] h n Q := by
  refine Rn_bipush dX9_signKind_139 rfl ?_
  exact Rn_ireturn rfl dX9_signKind_141 k
theorem BX9_signKind_142 {d bc bs : Nat} {h : aH} {n : Nat} {Q : aQ} {x0 : Int} (k : Q (some (vI 10)) h n) : Rn d (bc) (bs) mX9_signKind 142 [some (vI x0)] [] h n Q := by
  refine Rn_bipush dX9_signKind_142 rfl ?_
  exact Rn_ireturn rfl dX9_signKind_144 k
theorem BX9_signKind_145 {d bc bs : Nat} {h : aH} {n : Nat} {Q : aQ} {x0 : Int} (k : Q (some (vI 11)) h n) : Rn d (bc) (bs) mX9_signKind 145 [some (vI x0)] [] h n Q := by
  refine Rn_bipush dX9_signKind_145 rfl ?_
  exact Rn_ireturn rfl dX9_signKind_147 k
theorem BX9_signKind_148 {d bc bs : Nat} {h : aH} {n : Nat} {Q : aQ} {x0 : Int} (k : Q (some (vI 12)) h n) : Rn d (bc) (bs) mX9_signKind 148 [some (vI x0)] [] h n Q := by
  refine Rn_bipush dX9_signKind_148 rfl ?_
  exact Rn_ireturn rfl dX9_signKind_150 k
theorem BX9_signKind_151 {d bc bs : Nat} {h : aH} {n : Nat} {Q : aQ} {x0 : Int} (k : Q (some (vI 13)) h n) : Rn d (bc) (bs) mX9_signKind 151 [some (vI x0)] [] h n Q := by
  refine Rn_bipush dX9_signKind_151 rfl ?_
  exact Rn_ireturn rfl dX9_signKind_153 k
theorem BX9_signKind_154 {d bc bs : Nat} {h : aH} {n : Nat} {Q : aQ} {x0 : Int} (k : Q (some (vI 14)) h n) : Rn d (bc) (bs) mX9_signKind 154 [some (vI x0)] [] h n Q := by
  refine Rn_bipush dX9_signKind_154 rfl ?_
  exact Rn_ireturn rfl dX9_signKind_156 k
theorem BX9_signKind_157 {d bc bs : Nat} {h : aH} {n : Nat} {Q : aQ} {x0 : Int} (k : Q (some (vI 15)) h n) : Rn d (bc) (bs) mX9_signKind 157 [some (vI x0)] [] h n Q := by
  refine Rn_bipush dX9_signKind_157 rfl ?_
  exact Rn_ireturn rfl dX9_signKind_159 k
theorem BX9_signKind_160 {d bc bs : Nat} {h : aH} {n : Nat} {Q : aQ} {x0 : Int} (k : Q (some (vI 1)) h n) : Rn d (bc) (bs) mX9_signKind 160 [some (vI x0)] [] h n Q := by
  refine Rn_iconst dX9_signKind_160 rfl ?_
  exact Rn_ireturn rfl dX9_signKind_161 k
