theorem dX12_init_0 : decode cX12_init 0 = .ok (.aload_n 0, 1) := by decide +kernel
theorem dX12_init_1 : decode cX12_init 1 = .ok (.invokespecial 1, 3) := by decide +kernel
theorem dX12_init_4 : decode cX12_init 4 = .ok (.aload_n 0, 1) := by decide +kernel
theorem dX12_init_5 : decode cX12_init 5 = .ok (.new 7, 3) := by decide +kernel
theorem dX12_init_8 : decode cX12_init 8 = .ok (.dup, 1) := by decide +kernel
theorem dX12_init_9 : decode cX12_init 9 = .ok (.invokespecial 9, 3) := by decide +kernel
theorem dX12_init_12 : decode cX12_init 12 = .ok (.putfield 10, 3) := by decide +kernel
theorem dX12_init_15 : decode cX12_init 15 = .ok (.aload_n 0, 1) := by decide +kernel
theorem dX12_init_16 : decode cX12_init 16 = .ok (.new 7, 3) := by decide +kernel
theorem dX12_init_19 : decode cX12_init 19 = .ok (.dup, 1) := by decide +kernel
theorem dX12_init_20 : decode cX12_init 20 = .ok (.invokespecial 9, 3) := by decide +kernel
theorem dX12_init_23 : decode cX12_init 23 = .ok (.putfield 16, 3) := by decide +kernel
theorem dX12_init_26 : decode cX12_init 26 = .ok (.aload_n 0, 1) := by decide +kernel
theorem dX12_init_27 : decode cX12_init 27 = .ok (.new 19, 3) := by decide +kernel
theorem dX12_init_30 : decode cX12_init 30 = .ok (.dup, 1) := by decide +kernel
theorem dX12_init_31 : decode cX12_init 31 = .ok (.invokespecial 21, 3) := by decide +kernel
theorem dX12_init_34 : decode cX12_init 34 = .ok (.putfield 22, 3) := by decide +kernel
theorem dX12_init_37 : decode cX12_init 37 = .ok (.aload_n 0, 1) := by decide +kernel
theorem dX12_init_38 : decode cX12_init 38 = .ok (.new 26, 3) := by decide +kernel
theorem dX12_init_41 : decode cX12_init 41 = .ok (.dup, 1) := by decide +kernel
theorem dX12_init_42 : decode cX12_init 42 = .ok (.invokespecial 28, 3) := by decide +kernel
theorem dX12_init_45 : decode cX12_init 45 = .ok (.putfield 29, 3) := by decide +kernel
theorem dX12_init_48 : decode cX12_init 48 = .ok (.aload_n 0, 1) := by decide +kernel
theorem dX12_init_49 : decode cX12_init 49 = .ok (.new 33, 3) := by decide +kernel
theorem dX12_init_52 : decode cX12_init 52 = .ok (.dup, 1) := by decide +kernel
theorem dX12_init_53 : decode cX12_init 53 = .ok (.invokespecial 35, 3) := by decide +kernel
theorem dX12_init_56 : decode cX12_init 56 = .ok (.putfield 36, 3) := by decide +kernel
theorem dX12_init_59 : decode cX12_init 59 = .ok (.aload_n 0, 1) := by decide +kernel
theorem dX12_init_60 : decode cX12_init 60 = .ok (.new 40, 3) := by decide +kernel
theorem dX12_init_63 : decode cX12_init 63 = .ok (.dup, 1) := by decide +kernel
theorem dX12_init_64 : decode cX12_init 64 = .ok (.invokespecial 42, 3) := by decide +kernel
theorem dX12_init_67 : decode cX12_init 67 = .ok (.putfield 43, 3) := by decide +kernel
theorem dX12_init_70 : decode cX12_init 70 = .ok (.aload_n 0, 1) := by decide +kernel
theorem dX12_init_71 : decode cX12_init 71 = .ok (.new 47, 3) := by decide +kernel
theorem dX12_init_74 : decode cX12_init 74 = .ok (.dup, 1) := by decide +kernel
theorem dX12_init_75 : decode cX12_init 75 = .ok (.invokespecial 49, 3) := by decide +kernel
theorem dX12_init_78 : decode cX12_init 78 = .ok (.putfield 50, 3) := by decide +kernel
theorem dX12_init_81 : decode cX12_init 81 = .ok (.aload_n 0, 1) := by decide +kernel
theorem dX12_init_82 : decode cX12_init 82 = .ok (.new 54, 3) := by decide +kernel
theorem dX12_init_85 : decode cX12_init 85 = .ok (.dup, 1) := by decide +kernel
theorem dX12_init_86 : decode cX12_init 86 = .ok (.invokespecial 56, 3) := by decide +kernel
theorem dX12_init_89 : decode cX12_init 89 = .ok (.putfield 57, 3) := by decide +kernel
theorem dX12_init_92 : decode cX12_init 92 = .ok (.aload_n 0, 1) := by decide +kernel
theorem dX12_init_93 : decode cX12_init 93 = .ok (.iconst (-1), 1) := by decide +kernel
theorem dX12_init_94 : decode cX12_init 94 = .ok (.putfield 61, 3) := by decide +kernel
theorem dX12_init_97 : decode cX12_init 97 = .ok (.aload_n 0, 1) := by decide +kernel
theorem dX12_init_98 : decode cX12_init 98 = .ok (.iconst (-1), 1) := by decide +kernel
theorem dX12_init_99 : decode cX12_init 99 = .ok (.putfield 65, 3) := by decide +kernel
theorem dX12_init_102 : decode cX12_init 102 = .ok (.return_, 1) := by decide +kernel
theorem BX12_init_0 {d bc bs : Nat} {h : aH} {n : Nat} {Q : aQ} {ar0 : Nat} (k : Rn (d + 1) bc bs mX12_init 8 [some (vR (some ar0))] [vR (some n), vR (some ar0)] (up h n (cO 11 [vR none, vR none, vR none, vR none, vR none, vI 0, vI 0])) (n + 1) Q) : Rn (d + 1) (bc + 1) (bs + 7) mX12_init 0 [some (vR (some ar0))] [] h n Q := by
  refine Rn_aload_n dX12_init_0 rfl rfl rfl ?_
  refine Rn_objInit dX12_init_1 wd_148 wd_149 wd_150 (Nat.le_of_ble_eq_true rfl) ?_
  refine Rn_aload_n dX12_init_4 rfl rfl rfl ?_
  refine Rn_new (ci := 11) (bc := bc) (bs := bs) (by omega) (by omega) dX12_init_5 rfl in_11 tyX11_ok nf_11 wd_151 wd_152 wd_123 (fs := [vR none, vR none, vR none, vR none, vR none, vI 0, vI 0]) rfl ?_
  exact k
theorem BX12_init_8 {d bc bs bc1 bs1 : Nat} {h : aH} {n : Nat} {Q : aQ} {r0 q0 : Option Nat} {aq1 : Nat} (k : Rn d bc1 bs1 mX11_init 0 [some (vR (some aq1))] [] h n (fun v h1 n1 => Rn (d + 1) bc bs mX12_init 12 [some (vR r0)] (v.toList ++ [vR (some aq1), vR q0]) h1 n1 Q)) : Rn (d + 1) (bc1 + bc) (bs1 + bs) mX12_init 8 [some (vR r0)] [vR (some aq1), vR q0] h n Q := by
  refine Rn_dup dX12_init_8 rfl ?_
  exact Rn_callI (avs := []) (st := [vR (some aq1), vR q0]) (bc1 := bc1) (bs1 := bs1) (bc2 := bc) (bs2 := bs) fx_X11_init rfl rfl dX12_init_9 (Or.inr ⟨"BottledPost", List.mem_of_getElem? (i := 0) rfl⟩) wd_154 rfl (Nat.le_of_ble_eq_true rfl) (Nat.le_of_ble_eq_true rfl) (by omega) (by omega) (ls1 := [some (vR (some aq1))]) rfl k
theorem BX12_init_12 {d bc bs : Nat} {h : aH} {n : Nat} {Q : aQ} {r0 q1 : Option Nat} {aq0 : Nat} {f1 : List aV} (h2 : h aq0 = cO 12 f1) (m3 : 0 < f1.length) (k : Rn d bc bs mX12_init 15 [some (vR r0)] [] (up h aq0 (cO 12 (f1.set 0 (vR q1)))) n Q) : Rn d (bc) (bs) mX12_init 12 [some (vR r0)] [vR q1, vR (some aq0)] h n Q := by
  refine Rn_putfield (ci := 12) (k := 0) dX12_init_12 rfl in_12 tyX12_ok nmX12 (Nat.le_of_ble_eq_true rfl) wd_460 rfl (Or.inr ⟨rfl, rfl⟩) trivial m3 h2 ?_
  exact k
theorem BX12_init_15 {d bc bs : Nat} {h : aH} {n : Nat} {Q : aQ} {r0 : Option Nat} (k : Rn d bc bs mX12_init 19 [some (vR r0)] [vR (some n), vR r0] (up h n (cO 11 [vR none, vR none, vR none, vR none, vR none, vI 0, vI 0])) (n + 1) Q) : Rn d (bc + 1) (bs + 7) mX12_init 15 [some (vR r0)] [] h n Q := by
  refine Rn_aload_n dX12_init_15 rfl rfl rfl ?_
  refine Rn_new (ci := 11) (bc := bc) (bs := bs) (by omega) (by omega) dX12_init_16 rfl in_11 tyX11_ok nf_11 wd_151 wd_152 wd_123 (fs := [vR none, vR none, vR none, vR none, vR none, vI 0, vI 0]) rfl ?_
  exact k
theorem BX12_init_19 {d bc bs bc1 bs1 : Nat} {h : aH} {n : Nat} {Q : aQ} {r0 q0 : Option Nat} {aq1 : Nat} (k : Rn d bc1 bs1 mX11_init 0 [some (vR (some aq1))] [] h n (fun v h1 n1 => Rn (d + 1) bc bs mX12_init 23 [some (vR r0)] (v.toList ++ [vR (some aq1), vR q0]) h1 n1 Q)) : Rn (d + 1) (bc1 + bc) (bs1 + bs) mX12_init 19 [some (vR r0)] [vR (some aq1), vR q0] h n Q := by
  refine Rn_dup dX12_init_19 rfl ?_
  exact Rn_callI (avs := []) (st := [vR (some aq1), vR q0]) (bc1 := bc1) (bs1 := bs1) (bc2 := bc) (bs2 := bs) fx_X11_init rfl rfl dX12_init_20 (Or.inr ⟨"BottledPost", List.mem_of_getElem? (i := 0) rfl⟩) wd_154 rfl (Nat.le_of_ble_eq_true rfl) (Nat.le_of_ble_eq_true rfl) (by omega) (by omega) (ls1 := [some (vR (some aq1))]) rfl k
theorem BX12_init_23 {d bc bs : Nat} {h : aH} {n : Nat} {Q : aQ} {r0 q1 : Option Nat} {aq0 : Nat} {f1 : List aV} (h2 : h aq0 = cO 12 f1) (m3 : 1 < f1.length) (k : Rn d bc bs mX12_init 26 [some (vR r0)] [] (up h aq0 (cO 12 (f1.set 1 (vR q1)))) n Q) : Rn d (bc) (bs) mX12_init 23 [some (vR r0)] [vR q1, vR (some aq0)] h n Q := by
  refine Rn_putfield (ci := 12) (k := 1) dX12_init_23 rfl in_12 tyX12_ok nmX12 (Nat.le_of_ble_eq_true rfl) wd_461 rfl (Or.inr ⟨rfl, rfl⟩) trivial m3 h2 ?_
  exact k
theorem BX12_init_26 {d bc bs : Nat} {h : aH} {n : Nat} {Q : aQ} {r0 : Option Nat} (k : Rn d bc bs mX12_init 30 [some (vR r0)] [vR (some n), vR r0] (up h n (cO 9 [vR none, vI 0, vI 0, vI 0, vI 0, vI 0])) (n + 1) Q) : Rn d (bc + 1) (bs + 6) mX12_init 26 [some (vR r0)] [] h n Q := by
  refine Rn_aload_n dX12_init_26 rfl rfl rfl ?_
  refine Rn_new (ci := 9) (bc := bc) (bs := bs) (by omega) (by omega) dX12_init_27 rfl in_9 tyX9_ok nf_9 wd_320 wd_321 wd_129 (fs := [vR none, vI 0, vI 0, vI 0, vI 0, vI 0]) rfl ?_
  exact k
theorem BX12_init_30 {d bc bs bc1 bs1 : Nat} {h : aH} {n : Nat} {Q : aQ} {r0 q0 : Option Nat} {aq1 : Nat} (k : Rn d bc1 bs1 mX9_init 0 [some (vR (some aq1))] [] h n (fun v h1 n1 => Rn (d + 1) bc bs mX12_init 34 [some (vR r0)] (v.toList ++ [vR (some aq1), vR q0]) h1 n1 Q)) : Rn (d + 1) (bc1 + bc) (bs1 + bs) mX12_init 30 [some (vR r0)] [vR (some aq1), vR q0] h n Q := by
  refine Rn_dup dX12_init_30 rfl ?_
  exact Rn_callI (avs := []) (st := [vR (some aq1), vR q0]) (bc1 := bc1) (bs1 := bs1) (bc2 := bc) (bs2 := bs) fx_X9_init rfl rfl dX12_init_31 (Or.inr ⟨"BottledPost", List.mem_of_getElem? (i := 6) rfl⟩) wd_323 rfl (Nat.le_of_ble_eq_true rfl) (Nat.le_of_ble_eq_true rfl) (by omega) (by omega) (ls1 := [some (vR (some aq1))]) rfl k
theorem BX12_init_34 {d bc bs : Nat} {h : aH} {n : Nat} {Q : aQ} {r0 q1 : Option Nat} {aq0 : Nat} {f1 : List aV} (h2 : h aq0 = cO 12 f1) (m3 : 2 < f1.length) (k : Rn d bc bs mX12_init 37 [some (vR r0)] [] (up h aq0 (cO 12 (f1.set 2 (vR q1)))) n Q) : Rn d (bc) (bs) mX12_init 34 [some (vR r0)] [vR q1, vR (some aq0)] h n Q := by
  refine Rn_putfield (ci := 12) (k := 2) dX12_init_34 rfl in_12 tyX12_ok nmX12 (Nat.le_of_ble_eq_true rfl) wd_462 rfl (Or.inr ⟨rfl, rfl⟩) trivial m3 h2 ?_
  exact k
theorem BX12_init_37 {d bc bs : Nat} {h : aH} {n : Nat} {Q : aQ} {r0 : Option Nat} (k : Rn d bc bs mX12_init 41 [some (vR r0)] [vR (some n), vR r0] (up h n (cO 1 [vR none, vR none, vI 0, vI 0, vI 0, vI 0, vR none, vR none, vI 0, vI 0])) (n + 1) Q) : Rn d (bc + 1) (bs + 10) mX12_init 37 [some (vR r0)] [] h n Q := by
  refine Rn_aload_n dX12_init_37 rfl rfl rfl ?_
  refine Rn_new (ci := 1) (bc := bc) (bs := bs) (by omega) (by omega) dX12_init_38 rfl in_1 tyX1_ok nf_1 wd_349 wd_350 wd_130 (fs := [vR none, vR none, vI 0, vI 0, vI 0, vI 0, vR none, vR none, vI 0, vI 0]) rfl ?_
  exact k
theorem BX12_init_41 {d bc bs bc1 bs1 : Nat} {h : aH} {n : Nat} {Q : aQ} {r0 q0 : Option Nat} {aq1 : Nat} (k : Rn d bc1 bs1 mX1_init 0 [some (vR (some aq1))] [] h n (fun v h1 n1 => Rn (d + 1) bc bs mX12_init 45 [some (vR r0)] (v.toList ++ [vR (some aq1), vR q0]) h1 n1 Q)) : Rn (d + 1) (bc1 + bc) (bs1 + bs) mX12_init 41 [some (vR r0)] [vR (some aq1), vR q0] h n Q := by
  refine Rn_dup dX12_init_41 rfl ?_
  exact Rn_callI (avs := []) (st := [vR (some aq1), vR q0]) (bc1 := bc1) (bs1 := bs1) (bc2 := bc) (bs2 := bs) fx_X1_init rfl rfl dX12_init_42 (Or.inr ⟨"BottledPost", List.mem_of_getElem? (i := 7) rfl⟩) wd_352 rfl (Nat.le_of_ble_eq_true rfl) (Nat.le_of_ble_eq_true rfl) (by omega) (by omega) (ls1 := [some (vR (some aq1))]) rfl k
theorem BX12_init_45 {d bc bs : Nat} {h : aH} {n : Nat} {Q : aQ} {r0 q1 : Option Nat} {aq0 : Nat} {f1 : List aV} (h2 : h aq0 = cO 12 f1) (m3 : 3 < f1.length) (k : Rn d bc bs mX12_init 48 [some (vR r0)] [] (up h aq0 (cO 12 (f1.set 3 (vR q1)))) n Q) : Rn d (bc) (bs) mX12_init 45 [some (vR r0)] [vR q1, vR (some aq0)] h n Q := by
  refine Rn_putfield (ci := 12) (k := 3) dX12_init_45 rfl in_12 tyX12_ok nmX12 (Nat.le_of_ble_eq_true rfl) wd_463 rfl (Or.inr ⟨rfl, rfl⟩) trivial m3 h2 ?_
  exact k
theorem BX12_init_48 {d bc bs : Nat} {h : aH} {n : Nat} {Q : aQ} {r0 : Option Nat} (k : Rn d bc bs mX12_init 52 [some (vR r0)] [vR (some n), vR r0] (up h n (cO 2 [vR none, vI 0])) (n + 1) Q) : Rn d (bc + 1) (bs + 2) mX12_init 48 [some (vR r0)] [] h n Q := by
  refine Rn_aload_n dX12_init_48 rfl rfl rfl ?_
  refine Rn_new (ci := 2) (bc := bc) (bs := bs) (by omega) (by omega) dX12_init_49 rfl in_2 tyX2_ok nf_2 wd_388 wd_389 wd_131 (fs := [vR none, vI 0]) rfl ?_
  exact k
theorem BX12_init_52 {d bc bs bc1 bs1 : Nat} {h : aH} {n : Nat} {Q : aQ} {r0 q0 : Option Nat} {aq1 : Nat} (k : Rn d bc1 bs1 mX2_init 0 [some (vR (some aq1))] [] h n (fun v h1 n1 => Rn (d + 1) bc bs mX12_init 56 [some (vR r0)] (v.toList ++ [vR (some aq1), vR q0]) h1 n1 Q)) : Rn (d + 1) (bc1 + bc) (bs1 + bs) mX12_init 52 [some (vR r0)] [vR (some aq1), vR q0] h n Q := by
  refine Rn_dup dX12_init_52 rfl ?_
  exact Rn_callI (avs := []) (st := [vR (some aq1), vR q0]) (bc1 := bc1) (bs1 := bs1) (bc2 := bc) (bs2 := bs) fx_X2_init rfl rfl dX12_init_53 (Or.inr ⟨"BottledPost", List.mem_of_getElem? (i := 8) rfl⟩) wd_391 rfl (Nat.le_of_ble_eq_true rfl) (Nat.le_of_ble_eq_true rfl) (by omega) (by omega) (ls1 := [some (vR (some aq1))]) rfl k
theorem BX12_init_56 {d bc bs : Nat} {h : aH} {n : Nat} {Q : aQ} {r0 q1 : Option Nat} {aq0 : Nat} {f1 : List aV} (h2 : h aq0 = cO 12 f1) (m3 : 4 < f1.length) (k : Rn d bc bs mX12_init 59 [some (vR r0)] [] (up h aq0 (cO 12 (f1.set 4 (vR q1)))) n Q) : Rn d (bc) (bs) mX12_init 56 [some (vR r0)] [vR q1, vR (some aq0)] h n Q := by
  refine Rn_putfield (ci := 12) (k := 4) dX12_init_56 rfl in_12 tyX12_ok nmX12 (Nat.le_of_ble_eq_true rfl) wd_464 rfl (Or.inr ⟨rfl, rfl⟩) trivial m3 h2 ?_
  exact k
theorem BX12_init_59 {d bc bs : Nat} {h : aH} {n : Nat} {Q : aQ} {r0 : Option Nat} (k : Rn d bc bs mX12_init 63 [some (vR r0)] [vR (some n), vR r0] (up h n (cO 4 [vI 0, vR none, vR none, vI 0, vI 0, vI 0, vI 0])) (n + 1) Q) : Rn d (bc + 1) (bs + 7) mX12_init 59 [some (vR r0)] [] h n Q := by
  refine Rn_aload_n dX12_init_59 rfl rfl rfl ?_
  refine Rn_new (ci := 4) (bc := bc) (bs := bs) (by omega) (by omega) dX12_init_60 rfl in_4 tyX4_ok nf_4 wd_401 wd_402 wd_132 (fs := [vI 0, vR none, vR none, vI 0, vI 0, vI 0, vI 0]) rfl ?_
  exact k
theorem BX12_init_63 {d bc bs bc1 bs1 : Nat} {h : aH} {n : Nat} {Q : aQ} {r0 q0 : Option Nat} {aq1 : Nat} (k : Rn d bc1 bs1 mX4_init 0 [some (vR (some aq1))] [] h n (fun v h1 n1 => Rn (d + 1) bc bs mX12_init 67 [some (vR r0)] (v.toList ++ [vR (some aq1), vR q0]) h1 n1 Q)) : Rn (d + 1) (bc1 + bc) (bs1 + bs) mX12_init 63 [some (vR r0)] [vR (some aq1), vR q0] h n Q := by
  refine Rn_dup dX12_init_63 rfl ?_
  exact Rn_callI (avs := []) (st := [vR (some aq1), vR q0]) (bc1 := bc1) (bs1 := bs1) (bc2 := bc) (bs2 := bs) fx_X4_init rfl rfl dX12_init_64 (Or.inr ⟨"BottledPost", List.mem_of_getElem? (i := 9) rfl⟩) wd_404 rfl (Nat.le_of_ble_eq_true rfl) (Nat.le_of_ble_eq_true rfl) (by omega) (by omega) (ls1 := [some (vR (some aq1))]) rfl k
theorem BX12_init_67 {d bc bs : Nat} {h : aH} {n : Nat} {Q : aQ} {r0 q1 : Option Nat} {aq0 : Nat} {f1 : List aV} (h2 : h aq0 = cO 12 f1) (m3 : 5 < f1.length) (k : Rn d bc bs mX12_init 70 [some (vR r0)] [] (up h aq0 (cO 12 (f1.set 5 (vR q1)))) n Q) : Rn d (bc) (bs) mX12_init 67 [some (vR r0)] [vR q1, vR (some aq0)] h n Q := by
  refine Rn_putfield (ci := 12) (k := 5) dX12_init_67 rfl in_12 tyX12_ok nmX12 (Nat.le_of_ble_eq_true rfl) wd_465 rfl (Or.inr ⟨rfl, rfl⟩) trivial m3 h2 ?_
  exact k
theorem BX12_init_70 {d bc bs : Nat} {h : aH} {n : Nat} {Q : aQ} {r0 : Option Nat} (k : Rn d bc bs mX12_init 74 [some (vR r0)] [vR (some n), vR r0] (up h n (cO 3 [vR none, vR none, vR none, vR none, vI 0, vI 0])) (n + 1) Q) : Rn d (bc + 1) (bs + 6) mX12_init 70 [some (vR r0)] [] h n Q := by
  refine Rn_aload_n dX12_init_70 rfl rfl rfl ?_
  refine Rn_new (ci := 3) (bc := bc) (bs := bs) (by omega) (by omega) dX12_init_71 rfl in_3 tyX3_ok nf_3 wd_431 wd_432 wd_133 (fs := [vR none, vR none, vR none, vR none, vI 0, vI 0]) rfl ?_
  exact k
theorem BX12_init_74 {d bc bs bc1 bs1 : Nat} {h : aH} {n : Nat} {Q : aQ} {r0 q0 : Option Nat} {aq1 : Nat} (k : Rn d bc1 bs1 mX3_init 0 [some (vR (some aq1))] [] h n (fun v h1 n1 => Rn (d + 1) bc bs mX12_init 78 [some (vR r0)] (v.toList ++ [vR (some aq1), vR q0]) h1 n1 Q)) : Rn (d + 1) (bc1 + bc) (bs1 + bs) mX12_init 74 [some (vR r0)] [vR (some aq1), vR q0] h n Q := by
  refine Rn_dup dX12_init_74 rfl ?_
  exact Rn_callI (avs := []) (st := [vR (some aq1), vR q0]) (bc1 := bc1) (bs1 := bs1) (bc2 := bc) (bs2 := bs) fx_X3_init rfl rfl dX12_init_75 (Or.inr ⟨"BottledPost", List.mem_of_getElem? (i := 10) rfl⟩) wd_434 rfl (Nat.le_of_ble_eq_true rfl) (Nat.le_of_ble_eq_true rfl) (by omega) (by omega) (ls1 := [some (vR (some aq1))]) rfl k
theorem BX12_init_78 {d bc bs : Nat} {h : aH} {n : Nat} {Q : aQ} {r0 q1 : Option Nat} {aq0 : Nat} {f1 : List aV} (h2 : h aq0 = cO 12 f1) (m3 : 6 < f1.length) (k : Rn d bc bs mX12_init 81 [some (vR r0)] [] (up h aq0 (cO 12 (f1.set 6 (vR q1)))) n Q) : Rn d (bc) (bs) mX12_init 78 [some (vR r0)] [vR q1, vR (some aq0)] h n Q := by
  refine Rn_putfield (ci := 12) (k := 6) dX12_init_78 rfl in_12 tyX12_ok nmX12 (Nat.le_of_ble_eq_true rfl) wd_466 rfl (Or.inr ⟨rfl, rfl⟩) trivial m3 h2 ?_
  exact k
theorem BX12_init_81 {d bc bs : Nat} {h : aH} {n : Nat} {Q : aQ} {r0 : Option Nat} (k : Rn d bc bs mX12_init 85 [some (vR r0)] [vR (some n), vR r0] (up h n (cO 6 [vR none, vR none, vI 0, vI 0, vI 0])) (n + 1) Q) : Rn d (bc + 1) (bs + 5) mX12_init 81 [some (vR r0)] [] h n Q := by
  refine Rn_aload_n dX12_init_81 rfl rfl rfl ?_
  refine Rn_new (ci := 6) (bc := bc) (bs := bs) (by omega) (by omega) dX12_init_82 rfl in_6 tyX6_ok nf_6 wd_458 wd_183 wd_125 (fs := [vR none, vR none, vI 0, vI 0, vI 0]) rfl ?_
  exact k
theorem BX12_init_85 {d bc bs bc1 bs1 : Nat} {h : aH} {n : Nat} {Q : aQ} {r0 q0 : Option Nat} {aq1 : Nat} (k : Rn d bc1 bs1 mX6_init 0 [some (vR (some aq1))] [] h n (fun v h1 n1 => Rn (d + 1) bc bs mX12_init 89 [some (vR r0)] (v.toList ++ [vR (some aq1), vR q0]) h1 n1 Q)) : Rn (d + 1) (bc1 + bc) (bs1 + bs) mX12_init 85 [some (vR r0)] [vR (some aq1), vR q0] h n Q := by
  refine Rn_dup dX12_init_85 rfl ?_
  exact Rn_callI (avs := []) (st := [vR (some aq1), vR q0]) (bc1 := bc1) (bs1 := bs1) (bc2 := bc) (bs2 := bs) fx_X6_init rfl rfl dX12_init_86 (Or.inr ⟨"BottledPost", List.mem_of_getElem? (i := 11) rfl⟩) wd_185 rfl (Nat.le_of_ble_eq_true rfl) (Nat.le_of_ble_eq_true rfl) (by omega) (by omega) (ls1 := [some (vR (some aq1))]) rfl k
theorem BX12_init_89 {d bc bs : Nat} {h : aH} {n : Nat} {Q : aQ} {r0 q1 : Option Nat} {aq0 : Nat} {f1 : List aV} (h2 : h aq0 = cO 12 f1) (m3 : 7 < f1.length) (k : Rn d bc bs mX12_init 92 [some (vR r0)] [] (up h aq0 (cO 12 (f1.set 7 (vR q1)))) n Q) : Rn d (bc) (bs) mX12_init 89 [some (vR r0)] [vR q1, vR (some aq0)] h n Q := by
  refine Rn_putfield (ci := 12) (k := 7) dX12_init_89 rfl in_12 tyX12_ok nmX12 (Nat.le_of_ble_eq_true rfl) wd_467 rfl (Or.inr ⟨rfl, rfl⟩) trivial m3 h2 ?_
  exact k
theorem BX12_init_92 {d bc bs : Nat} {h : aH} {n : Nat} {Q : aQ} {ar0 : Nat} {f1 : List aV} (h2 : h ar0 = cO 12 f1) (m3 : 8 < f1.length) (k : Rn d bc bs mX12_init 97 [some (vR (some ar0))] [] (up h ar0 (cO 12 (f1.set 8 (vI (-1))))) n Q) : Rn d (bc) (bs) mX12_init 92 [some (vR (some ar0))] [] h n Q := by
  refine Rn_aload_n dX12_init_92 rfl rfl rfl ?_
  refine Rn_iconst dX12_init_93 rfl ?_
  refine Rn_putfield (ci := 12) (k := 8) dX12_init_94 rfl in_12 tyX12_ok nmX12 (Nat.le_of_ble_eq_true rfl) wd_468 rfl (Or.inl rfl) trivial m3 h2 ?_
  exact k
theorem BX12_init_97 {d bc bs : Nat} {h : aH} {n : Nat} {Q : aQ} {ar0 : Nat} {f1 : List aV} (h2 : h ar0 = cO 12 f1) (m3 : 9 < f1.length) (k : Rn d bc bs mX12_init 102 [some (vR (some ar0))] [] (up h ar0 (cO 12 (f1.set 9 (vI (-1))))) n Q) : Rn d (bc) (bs) mX12_init 97 [some (vR (some ar0))] [] h n Q := by
  refine Rn_aload_n dX12_init_97 rfl rfl rfl ?_
  refine Rn_iconst dX12_init_98 rfl ?_
  refine Rn_putfield (ci := 12) (k := 9) dX12_init_99 rfl in_12 tyX12_ok nmX12 (Nat.le_of_ble_eq_true rfl) wd_469 rfl (Or.inl rfl) trivial m3 h2 ?_
  exact k
theorem BX12_init_102 {d bc bs : Nat} {h : aH} {n : Nat} {Q : aQ} {r0 : Option Nat} (k : Q none h n) : Rn d (bc) (bs) mX12_init 102 [some (vR r0)] [] h n Q := by
  exact Rn_return rfl dX12_init_102 k
theorem dX12_person_0 : decode cX12_person 0 = .ok (.aload_n 0, 1) := by decide +kernel
theorem dX12_person_1 : decode cX12_person 1 = .ok (.getfield 10, 3) := by decide +kernel
theorem dX12_person_4 : decode cX12_person 4 = .ok (.getfield 68, 3) := by decide +kernel
theorem dX12_person_7 : decode cX12_person 7 = .ok (.iload_n 1, 1) := by decide +kernel
theorem dX12_person_8 : decode cX12_person 8 = .ok (.iload_n 2, 1) := by decide +kernel
theorem dX12_person_9 : decode cX12_person 9 = .ok (.invokevirtual 72, 3) := by decide +kernel
theorem dX12_person_12 : decode cX12_person 12 = .ok (.ireturn, 1) := by decide +kernel
theorem BX12_person_0 {d bc bs : Nat} {h : aH} {n : Nat} {Q : aQ} {ar0 at3 at7 : Nat} {x1 x2 : Int} {f1 f5 f9 : List aV} (h2 : h ar0 = cO 12 f1) (g4 : f1[0]? = some (vR (some at3))) (h6 : h at3 = cO 11 f5) (g8 : f5[0]? = some (vR (some at7))) (h10 : h at7 = cO 7 f9) (k : Rn d 0 0 mX7_addPerson 0 [some (vR (some at7)), some (vI x1), some (vI x2)] [] h n (fun v h1 n1 => Rn (d + 1) bc bs mX12_person 12 [some (vR (some ar0)), some (vI x1), some (vI x2)] (v.toList ++ []) h1 n1 Q)) : Rn (d + 1) (bc) (bs) mX12_person 0 [some (vR (some ar0)), some (vI x1), some (vI x2)] [] h n Q := by
  refine Rn_aload_n dX12_person_0 rfl rfl rfl ?_
  refine Rn_getfield (ci := 12) (k := 0) dX12_person_1 rfl in_12 (Nat.le_of_ble_eq_true rfl) wd_460 rfl h2 g4 ?_
  refine Rn_getfield (ci := 11) (k := 0) dX12_person_4 rfl in_11 (Nat.le_of_ble_eq_true rfl) wd_293 rfl h6 g8 ?_
  refine Rn_iload_n dX12_person_7 rfl rfl ?_
  refine Rn_iload_n dX12_person_8 rfl rfl ?_
  exact Rn_callV (ci := 7) (avs := [vI x1, vI x2]) (st := []) (bc1 := 0) (bs1 := 0) (bc2 := bc) (bs2 := bs) fx_X7_addPerson dX12_person_9 wd_495 wd_496 wd_497 rfl h10 rfl (Nat.le_of_ble_eq_true rfl) (Nat.le_of_ble_eq_true rfl) (by omega) (by omega) (ls1 := [some (vR (some at7)), some (vI x1), some (vI x2)]) rfl k
theorem BX12_person_12 {d bc bs : Nat} {h : aH} {n : Nat} {Q : aQ} {r0 : Option Nat} {x1 x2 s0 : Int} (k : Q (some (vI s0)) h n) : Rn d (bc) (bs) mX12_person 12 [some (vR r0), some (vI x1), some (vI x2)] [vI s0] h n Q := by
  exact Rn_ireturn rfl dX12_person_12 k
theorem dX12_current_0 : decode cX12_current 0 = .ok (.aload_n 0, 1) := by decide +kernel
theorem dX12_current_1 : decode cX12_current 1 = .ok (.getfield 10, 3) := by decide +kernel
theorem dX12_current_4 : decode cX12_current 4 = .ok (.getfield 68, 3) := by decide +kernel
theorem dX12_current_7 : decode cX12_current 7 = .ok (.iload_n 1, 1) := by decide +kernel
theorem dX12_current_8 : decode cX12_current 8 = .ok (.iload_n 2, 1) := by decide +kernel
theorem dX12_current_9 : decode cX12_current 9 = .ok (.iload_n 3, 1) := by decide +kernel
theorem dX12_current_10 : decode cX12_current 10 = .ok (.invokevirtual 78, 3) := by decide +kernel
theorem dX12_current_13 : decode cX12_current 13 = .ok (.ireturn, 1) := by decide +kernel
theorem BX12_current_0 {d bc bs : Nat} {h : aH} {n : Nat} {Q : aQ} {ar0 at3 at7 : Nat} {x1 x2 x3 : Int} {f1 f5 f9 : List aV} (h2 : h ar0 = cO 12 f1) (g4 : f1[0]? = some (vR (some at3))) (h6 : h at3 = cO 11 f5) (g8 : f5[0]? = some (vR (some at7))) (h10 : h at7 = cO 7 f9) (k : Rn d 0 0 mX7_tellCurrent 0 [some (vR (some at7)), some (vI x1), some (vI x2), some (vI x3)] [] h n (fun v h1 n1 => Rn (d + 1) bc bs mX12_current 13 [some (vR (some ar0)), some (vI x1), some (vI x2), some (vI x3)] (v.toList ++ []) h1 n1 Q)) : Rn (d + 1) (bc) (bs) mX12_current 0 [some (vR (some ar0)), some (vI x1), some (vI x2), some (vI x3)] [] h n Q := by
  refine Rn_aload_n dX12_current_0 rfl rfl rfl ?_
  refine Rn_getfield (ci := 12) (k := 0) dX12_current_1 rfl in_12 (Nat.le_of_ble_eq_true rfl) wd_460 rfl h2 g4 ?_
  refine Rn_getfield (ci := 11) (k := 0) dX12_current_4 rfl in_11 (Nat.le_of_ble_eq_true rfl) wd_293 rfl h6 g8 ?_
  refine Rn_iload_n dX12_current_7 rfl rfl ?_
  refine Rn_iload_n dX12_current_8 rfl rfl ?_
  refine Rn_iload_n dX12_current_9 rfl rfl ?_
  exact Rn_callV (ci := 7) (avs := [vI x1, vI x2, vI x3]) (st := []) (bc1 := 0) (bs1 := 0) (bc2 := bc) (bs2 := bs) fx_X7_tellCurrent dX12_current_10 wd_510 wd_511 wd_512 rfl h10 rfl (Nat.le_of_ble_eq_true rfl) (Nat.le_of_ble_eq_true rfl) (by omega) (by omega) (ls1 := [some (vR (some at7)), some (vI x1), some (vI x2), some (vI x3)]) rfl k
theorem BX12_current_13 {d bc bs : Nat} {h : aH} {n : Nat} {Q : aQ} {r0 : Option Nat} {x1 x2 x3 s0 : Int} (b1 : s0 = 0 ∨ s0 = 1) (k : Q (some (vI s0)) h n) : Rn d (bc) (bs) mX12_current 13 [some (vR r0), some (vI x1), some (vI x2), some (vI x3)] [vI s0] h n Q := by
  exact Rn_zreturn rfl dX12_current_13 b1 k
theorem dX12_feed_0 : decode cX12_feed 0 = .ok (.aload_n 0, 1) := by decide +kernel
theorem dX12_feed_1 : decode cX12_feed 1 = .ok (.getfield 22, 3) := by decide +kernel
theorem dX12_feed_4 : decode cX12_feed 4 = .ok (.bipush 20, 2) := by decide +kernel
theorem dX12_feed_6 : decode cX12_feed 6 = .ok (.invokevirtual 82, 3) := by decide +kernel
theorem dX12_feed_9 : decode cX12_feed 9 = .ok (.ifCond .ne 5, 3) := by decide +kernel
theorem dX12_feed_12 : decode cX12_feed 12 = .ok (.iconst (-1), 1) := by decide +kernel
theorem dX12_feed_13 : decode cX12_feed 13 = .ok (.ireturn, 1) := by decide +kernel
theorem dX12_feed_14 : decode cX12_feed 14 = .ok (.aload_n 0, 1) := by decide +kernel
theorem dX12_feed_15 : decode cX12_feed 15 = .ok (.getfield 22, 3) := by decide +kernel
theorem dX12_feed_18 : decode cX12_feed 18 = .ok (.iload_n 1, 1) := by decide +kernel
theorem dX12_feed_19 : decode cX12_feed 19 = .ok (.invokevirtual 86, 3) := by decide +kernel
theorem dX12_feed_22 : decode cX12_feed 22 = .ok (.aload_n 0, 1) := by decide +kernel
theorem dX12_feed_23 : decode cX12_feed 23 = .ok (.getfield 22, 3) := by decide +kernel
theorem dX12_feed_26 : decode cX12_feed 26 = .ok (.iload_n 2, 1) := by decide +kernel
theorem dX12_feed_27 : decode cX12_feed 27 = .ok (.invokevirtual 86, 3) := by decide +kernel
theorem dX12_feed_30 : decode cX12_feed 30 = .ok (.aload_n 0, 1) := by decide +kernel
theorem dX12_feed_31 : decode cX12_feed 31 = .ok (.getfield 22, 3) := by decide +kernel
theorem dX12_feed_34 : decode cX12_feed 34 = .ok (.iload_n 3, 1) := by decide +kernel
theorem dX12_feed_35 : decode cX12_feed 35 = .ok (.invokevirtual 86, 3) := by decide +kernel
theorem dX12_feed_38 : decode cX12_feed 38 = .ok (.aload_n 0, 1) := by decide +kernel
theorem dX12_feed_39 : decode cX12_feed 39 = .ok (.getfield 22, 3) := by decide +kernel
theorem dX12_feed_42 : decode cX12_feed 42 = .ok (.iload 4, 2) := by decide +kernel
theorem dX12_feed_44 : decode cX12_feed 44 = .ok (.invokevirtual 86, 3) := by decide +kernel
theorem dX12_feed_47 : decode cX12_feed 47 = .ok (.aload_n 0, 1) := by decide +kernel
theorem dX12_feed_48 : decode cX12_feed 48 = .ok (.getfield 22, 3) := by decide +kernel
theorem dX12_feed_51 : decode cX12_feed 51 = .ok (.iload 5, 2) := by decide +kernel
theorem dX12_feed_53 : decode cX12_feed 53 = .ok (.invokevirtual 86, 3) := by decide +kernel
theorem dX12_feed_56 : decode cX12_feed 56 = .ok (.aload_n 0, 1) := by decide +kernel
theorem dX12_feed_57 : decode cX12_feed 57 = .ok (.getfield 22, 3) := by decide +kernel
theorem dX12_feed_60 : decode cX12_feed 60 = .ok (.getfield 90, 3) := by decide +kernel
theorem dX12_feed_63 : decode cX12_feed 63 = .ok (.ireturn, 1) := by decide +kernel
theorem BX12_feed_0 {d bc bs : Nat} {h : aH} {n : Nat} {Q : aQ} {ar0 at3 : Nat} {x1 x2 x3 x4 x5 : Int} {f1 f5 : List aV} (h2 : h ar0 = cO 12 f1) (g4 : f1[2]? = some (vR (some at3))) (h6 : h at3 = cO 9 f5) (k : Rn d 0 0 mX9_hasRoom 0 [some (vR (some at3)), some (vI 20)] [] h n (fun v h1 n1 => Rn (d + 1) bc bs mX12_feed 9 [some (vR (some ar0)), some (vI x1), some (vI x2), some (vI x3), some (vI x4), some (vI x5)] (v.toList ++ []) h1 n1 Q)) : Rn (d + 1) (bc) (bs) mX12_feed 0 [some (vR (some ar0)), some (vI x1), some (vI x2), some (vI x3), some (vI x4), some (vI x5)] [] h n Q := by
  refine Rn_aload_n dX12_feed_0 rfl rfl rfl ?_
  refine Rn_getfield (ci := 12) (k := 2) dX12_feed_1 rfl in_12 (Nat.le_of_ble_eq_true rfl) wd_462 rfl h2 g4 ?_
  refine Rn_bipush dX12_feed_4 rfl ?_
  exact Rn_callV (ci := 9) (avs := [vI 20]) (st := []) (bc1 := 0) (bs1 := 0) (bc2 := bc) (bs2 := bs) fx_X9_hasRoom dX12_feed_6 wd_518 wd_519 wd_520 rfl h6 rfl (Nat.le_of_ble_eq_true rfl) (Nat.le_of_ble_eq_true rfl) (by omega) (by omega) (ls1 := [some (vR (some at3)), some (vI 20)]) rfl k
theorem BX12_feed_9 {d bc bs : Nat} {h : aH} {n : Nat} {Q : aQ} {r0 : Option Nat} {x1 x2 x3 x4 x5 s0 : Int} (kt : s0 ≠ 0 → Rn d bc bs mX12_feed 14 [some (vR r0), some (vI x1), some (vI x2), some (vI x3), some (vI x4), some (vI x5)] [] h n Q) (kf : s0 = 0 → Rn d bc bs mX12_feed 12 [some (vR r0), some (vI x1), some (vI x2), some (vI x3), some (vI x4), some (vI x5)] [] h n Q) : Rn d (bc) (bs) mX12_feed 9 [some (vR r0), some (vI x1), some (vI x2), some (vI x3), some (vI x4), some (vI x5)] [vI s0] h n Q := by
  refine Rn_ifne (tgt := 14) dX12_feed_9 rfl ?_ ?_
  · exact kt
  · exact kf
theorem BX12_feed_12 {d bc bs : Nat} {h : aH} {n : Nat} {Q : aQ} {r0 : Option Nat} {x1 x2 x3 x4 x5 : Int} (k : Q (some (vI (-1))) h n) : Rn d (bc) (bs) mX12_feed 12 [some (vR r0), some (vI x1), some (vI x2), some (vI x3), some (vI x4), some (vI x5)] [] h n Q := by
  refine Rn_iconst dX12_feed_12 rfl ?_
  exact Rn_ireturn rfl dX12_feed_13 k
theorem BX12_feed_14 {d bc bs : Nat} {h : aH} {n : Nat} {Q : aQ} {ar0 at3 : Nat} {x1 x2 x3 x4 x5 : Int} {f1 f5 : List aV} (h2 : h ar0 = cO 12 f1) (g4 : f1[2]? = some (vR (some at3))) (h6 : h at3 = cO 9 f5) (k : Rn d 0 0 mX9_addFour 0 [some (vR (some at3)), some (vI x1), none] [] h n (fun v h1 n1 => Rn (d + 1) bc bs mX12_feed 22 [some (vR (some ar0)), some (vI x1), some (vI x2), some (vI x3), some (vI x4), some (vI x5)] (v.toList ++ []) h1 n1 Q)) : Rn (d + 1) (bc) (bs) mX12_feed 14 [some (vR (some ar0)), some (vI x1), some (vI x2), some (vI x3), some (vI x4), some (vI x5)] [] h n Q := by
  refine Rn_aload_n dX12_feed_14 rfl rfl rfl ?_
  refine Rn_getfield (ci := 12) (k := 2) dX12_feed_15 rfl in_12 (Nat.le_of_ble_eq_true rfl) wd_462 rfl h2 g4 ?_
  refine Rn_iload_n dX12_feed_18 rfl rfl ?_
  exact Rn_callV (ci := 9) (avs := [vI x1]) (st := []) (bc1 := 0) (bs1 := 0) (bc2 := bc) (bs2 := bs) fx_X9_addFour dX12_feed_19 wd_522 wd_523 wd_524 rfl h6 rfl (Nat.le_of_ble_eq_true rfl) (Nat.le_of_ble_eq_true rfl) (by omega) (by omega) (ls1 := [some (vR (some at3)), some (vI x1), none]) rfl k
theorem BX12_feed_22 {d bc bs : Nat} {h : aH} {n : Nat} {Q : aQ} {ar0 at3 : Nat} {x1 x2 x3 x4 x5 : Int} {f1 f5 : List aV} (h2 : h ar0 = cO 12 f1) (g4 : f1[2]? = some (vR (some at3))) (h6 : h at3 = cO 9 f5) (k : Rn d 0 0 mX9_addFour 0 [some (vR (some at3)), some (vI x2), none] [] h n (fun v h1 n1 => Rn (d + 1) bc bs mX12_feed 30 [some (vR (some ar0)), some (vI x1), some (vI x2), some (vI x3), some (vI x4), some (vI x5)] (v.toList ++ []) h1 n1 Q)) : Rn (d + 1) (bc) (bs) mX12_feed 22 [some (vR (some ar0)), some (vI x1), some (vI x2), some (vI x3), some (vI x4), some (vI x5)] [] h n Q := by
  refine Rn_aload_n dX12_feed_22 rfl rfl rfl ?_
  refine Rn_getfield (ci := 12) (k := 2) dX12_feed_23 rfl in_12 (Nat.le_of_ble_eq_true rfl) wd_462 rfl h2 g4 ?_
  refine Rn_iload_n dX12_feed_26 rfl rfl ?_
  exact Rn_callV (ci := 9) (avs := [vI x2]) (st := []) (bc1 := 0) (bs1 := 0) (bc2 := bc) (bs2 := bs) fx_X9_addFour dX12_feed_27 wd_522 wd_523 wd_524 rfl h6 rfl (Nat.le_of_ble_eq_true rfl) (Nat.le_of_ble_eq_true rfl) (by omega) (by omega) (ls1 := [some (vR (some at3)), some (vI x2), none]) rfl k
theorem BX12_feed_30 {d bc bs : Nat} {h : aH} {n : Nat} {Q : aQ} {ar0 at3 : Nat} {x1 x2 x3 x4 x5 : Int} {f1 f5 : List aV} (h2 : h ar0 = cO 12 f1) (g4 : f1[2]? = some (vR (some at3))) (h6 : h at3 = cO 9 f5) (k : Rn d 0 0 mX9_addFour 0 [some (vR (some at3)), some (vI x3), none] [] h n (fun v h1 n1 => Rn (d + 1) bc bs mX12_feed 38 [some (vR (some ar0)), some (vI x1), some (vI x2), some (vI x3), some (vI x4), some (vI x5)] (v.toList ++ []) h1 n1 Q)) : Rn (d + 1) (bc) (bs) mX12_feed 30 [some (vR (some ar0)), some (vI x1), some (vI x2), some (vI x3), some (vI x4), some (vI x5)] [] h n Q := by
  refine Rn_aload_n dX12_feed_30 rfl rfl rfl ?_
  refine Rn_getfield (ci := 12) (k := 2) dX12_feed_31 rfl in_12 (Nat.le_of_ble_eq_true rfl) wd_462 rfl h2 g4 ?_
  refine Rn_iload_n dX12_feed_34 rfl rfl ?_
  exact Rn_callV (ci := 9) (avs := [vI x3]) (st := []) (bc1 := 0) (bs1 := 0) (bc2 := bc) (bs2 := bs) fx_X9_addFour dX12_feed_35 wd_522 wd_523 wd_524 rfl h6 rfl (Nat.le_of_ble_eq_true rfl) (Nat.le_of_ble_eq_true rfl) (by omega) (by omega) (ls1 := [some (vR (some at3)), some (vI x3), none]) rfl k
theorem BX12_feed_38 {d bc bs : Nat} {h : aH} {n : Nat} {Q : aQ} {ar0 at3 : Nat} {x1 x2 x3 x4 x5 : Int} {f1 f5 : List aV} (h2 : h ar0 = cO 12 f1) (g4 : f1[2]? = some (vR (some at3))) (h6 : h at3 = cO 9 f5) (k : Rn d 0 0 mX9_addFour 0 [some (vR (some at3)), some (vI x4), none] [] h n (fun v h1 n1 => Rn (d + 1) bc bs mX12_feed 47 [some (vR (some ar0)), some (vI x1), some (vI x2), some (vI x3), some (vI x4), some (vI x5)] (v.toList ++ []) h1 n1 Q)) : Rn (d + 1) (bc) (bs) mX12_feed 38 [some (vR (some ar0)), some (vI x1), some (vI x2), some (vI x3), some (vI x4), some (vI x5)] [] h n Q := by
  refine Rn_aload_n dX12_feed_38 rfl rfl rfl ?_
  refine Rn_getfield (ci := 12) (k := 2) dX12_feed_39 rfl in_12 (Nat.le_of_ble_eq_true rfl) wd_462 rfl h2 g4 ?_
  refine Rn_iload dX12_feed_42 rfl ?_
  exact Rn_callV (ci := 9) (avs := [vI x4]) (st := []) (bc1 := 0) (bs1 := 0) (bc2 := bc) (bs2 := bs) fx_X9_addFour dX12_feed_44 wd_522 wd_523 wd_524 rfl h6 rfl (Nat.le_of_ble_eq_true rfl) (Nat.le_of_ble_eq_true rfl) (by omega) (by omega) (ls1 := [some (vR (some at3)), some (vI x4), none]) rfl k
theorem BX12_feed_47 {d bc bs : Nat} {h : aH} {n : Nat} {Q : aQ} {ar0 at3 : Nat} {x1 x2 x3 x4 x5 : Int} {f1 f5 : List aV} (h2 : h ar0 = cO 12 f1) (g4 : f1[2]? = some (vR (some at3))) (h6 : h at3 = cO 9 f5) (k : Rn d 0 0 mX9_addFour 0 [some (vR (some at3)), some (vI x5), none] [] h n (fun v h1 n1 => Rn (d + 1) bc bs mX12_feed 56 [some (vR (some ar0)), some (vI x1), some (vI x2), some (vI x3), some (vI x4), some (vI x5)] (v.toList ++ []) h1 n1 Q)) : Rn (d + 1) (bc) (bs) mX12_feed 47 [some (vR (some ar0)), some (vI x1), some (vI x2), some (vI x3), some (vI x4), some (vI x5)] [] h n Q := by
  refine Rn_aload_n dX12_feed_47 rfl rfl rfl ?_
  refine Rn_getfield (ci := 12) (k := 2) dX12_feed_48 rfl in_12 (Nat.le_of_ble_eq_true rfl) wd_462 rfl h2 g4 ?_
  refine Rn_iload dX12_feed_51 rfl ?_
  exact Rn_callV (ci := 9) (avs := [vI x5]) (st := []) (bc1 := 0) (bs1 := 0) (bc2 := bc) (bs2 := bs) fx_X9_addFour dX12_feed_53 wd_522 wd_523 wd_524 rfl h6 rfl (Nat.le_of_ble_eq_true rfl) (Nat.le_of_ble_eq_true rfl) (by omega) (by omega) (ls1 := [some (vR (some at3)), some (vI x5), none]) rfl k
theorem BX12_feed_56 {d bc bs : Nat} {h : aH} {n : Nat} {Q : aQ} {ar0 at3 : Nat} {x1 x2 x3 x4 x5 v7 : Int} {f1 f5 : List aV} (h2 : h ar0 = cO 12 f1) (g4 : f1[2]? = some (vR (some at3))) (h6 : h at3 = cO 9 f5) (g8 : f5[1]? = some (vI v7)) (k : Q (some (vI v7)) h n) : Rn d (bc) (bs) mX12_feed 56 [some (vR (some ar0)), some (vI x1), some (vI x2), some (vI x3), some (vI x4), some (vI x5)] [] h n Q := by
  refine Rn_aload_n dX12_feed_56 rfl rfl rfl ?_
  refine Rn_getfield (ci := 12) (k := 2) dX12_feed_57 rfl in_12 (Nat.le_of_ble_eq_true rfl) wd_462 rfl h2 g4 ?_
  refine Rn_getfield (ci := 9) (k := 1) dX12_feed_60 rfl in_9 (Nat.le_of_ble_eq_true rfl) wd_328 rfl h6 g8 ?_
  exact Rn_ireturn rfl dX12_feed_63 k
theorem dX12_end_0 : decode cX12_end 0 = .ok (.iload_n 1, 1) := by decide +kernel
theorem dX12_end_1 : decode cX12_end 1 = .ok (.iconst 0, 1) := by decide +kernel
theorem dX12_end_2 : decode cX12_end 2 = .ok (.aload_n 0, 1) := by decide +kernel
theorem dX12_end_3 : decode cX12_end 3 = .ok (.getfield 22, 3) := by decide +kernel
theorem dX12_end_6 : decode cX12_end 6 = .ok (.getfield 90, 3) := by decide +kernel
theorem dX12_end_9 : decode cX12_end 9 = .ok (.invokestatic 93, 3) := by decide +kernel
theorem dX12_end_12 : decode cX12_end 12 = .ok (.ifCond .ne 5, 3) := by decide +kernel
theorem dX12_end_15 : decode cX12_end 15 = .ok (.iconst (-1), 1) := by decide +kernel
theorem dX12_end_16 : decode cX12_end 16 = .ok (.ireturn, 1) := by decide +kernel
theorem dX12_end_17 : decode cX12_end 17 = .ok (.aload_n 0, 1) := by decide +kernel
theorem dX12_end_18 : decode cX12_end 18 = .ok (.getfield 22, 3) := by decide +kernel
theorem dX12_end_21 : decode cX12_end 21 = .ok (.iload_n 1, 1) := by decide +kernel
theorem dX12_end_22 : decode cX12_end 22 = .ok (.putfield 90, 3) := by decide +kernel
theorem dX12_end_25 : decode cX12_end 25 = .ok (.iload_n 1, 1) := by decide +kernel
theorem dX12_end_26 : decode cX12_end 26 = .ok (.ireturn, 1) := by decide +kernel
theorem BX12_end_0 {d bc bs : Nat} {h : aH} {n : Nat} {Q : aQ} {ar0 at3 : Nat} {x1 v7 : Int} {f1 f5 : List aV} (h2 : h ar0 = cO 12 f1) (g4 : f1[2]? = some (vR (some at3))) (h6 : h at3 = cO 9 f5) (g8 : f5[1]? = some (vI v7)) (k : Rn d 0 0 mX12_within 0 [some (vI x1), some (vI 0), some (vI v7)] [] h n (fun v h1 n1 => Rn (d + 1) bc bs mX12_end 12 [some (vR (some ar0)), some (vI x1)] (v.toList ++ []) h1 n1 Q)) : Rn (d + 1) (bc) (bs) mX12_end 0 [some (vR (some ar0)), some (vI x1)] [] h n Q := by
  refine Rn_iload_n dX12_end_0 rfl rfl ?_
  refine Rn_iconst dX12_end_1 rfl ?_
  refine Rn_aload_n dX12_end_2 rfl rfl rfl ?_
  refine Rn_getfield (ci := 12) (k := 2) dX12_end_3 rfl in_12 (Nat.le_of_ble_eq_true rfl) wd_462 rfl h2 g4 ?_
  refine Rn_getfield (ci := 9) (k := 1) dX12_end_6 rfl in_9 (Nat.le_of_ble_eq_true rfl) wd_328 rfl h6 g8 ?_
  exact Rn_callS (avs := [vI x1, vI 0, vI v7]) (st := []) (bc1 := 0) (bs1 := 0) (bc2 := bc) (bs2 := bs) fx_X12_within dX12_end_9 (Or.inl wd_502) wd_503 rfl (Nat.le_of_ble_eq_true rfl) (Nat.le_of_ble_eq_true rfl) (by omega) (by omega) (ls1 := [some (vI x1), some (vI 0), some (vI v7)]) rfl k
theorem BX12_end_12 {d bc bs : Nat} {h : aH} {n : Nat} {Q : aQ} {r0 : Option Nat} {x1 s0 : Int} (kt : s0 ≠ 0 → Rn d bc bs mX12_end 17 [some (vR r0), some (vI x1)] [] h n Q) (kf : s0 = 0 → Rn d bc bs mX12_end 15 [some (vR r0), some (vI x1)] [] h n Q) : Rn d (bc) (bs) mX12_end 12 [some (vR r0), some (vI x1)] [vI s0] h n Q := by
  refine Rn_ifne (tgt := 17) dX12_end_12 rfl ?_ ?_
  · exact kt
  · exact kf
theorem BX12_end_15 {d bc bs : Nat} {h : aH} {n : Nat} {Q : aQ} {r0 : Option Nat} {x1 : Int} (k : Q (some (vI (-1))) h n) : Rn d (bc) (bs) mX12_end 15 [some (vR r0), some (vI x1)] [] h n Q := by
  refine Rn_iconst dX12_end_15 rfl ?_
  exact Rn_ireturn rfl dX12_end_16 k
theorem BX12_end_17 {d bc bs : Nat} {h : aH} {n : Nat} {Q : aQ} {ar0 at3 : Nat} {x1 : Int} {f1 f5 : List aV} (h2 : h ar0 = cO 12 f1) (g4 : f1[2]? = some (vR (some at3))) (h6 : h at3 = cO 9 f5) (m7 : 1 < f5.length) (k : Rn d bc bs mX12_end 25 [some (vR (some ar0)), some (vI x1)] [] (up h at3 (cO 9 (f5.set 1 (vI x1)))) n Q) : Rn d (bc) (bs) mX12_end 17 [some (vR (some ar0)), some (vI x1)] [] h n Q := by
  refine Rn_aload_n dX12_end_17 rfl rfl rfl ?_
  refine Rn_getfield (ci := 12) (k := 2) dX12_end_18 rfl in_12 (Nat.le_of_ble_eq_true rfl) wd_462 rfl h2 g4 ?_
  refine Rn_iload_n dX12_end_21 rfl rfl ?_
  refine Rn_putfield (ci := 9) (k := 1) dX12_end_22 rfl in_9 tyX9_ok nmX9 (Nat.le_of_ble_eq_true rfl) wd_328 rfl (Or.inl rfl) trivial m7 h6 ?_
  exact k
theorem BX12_end_25 {d bc bs : Nat} {h : aH} {n : Nat} {Q : aQ} {r0 : Option Nat} {x1 : Int} (k : Q (some (vI x1)) h n) : Rn d (bc) (bs) mX12_end 25 [some (vR r0), some (vI x1)] [] h n Q := by
  refine Rn_iload_n dX12_end_25 rfl rfl ?_
  exact Rn_ireturn rfl dX12_end_26 k
theorem dX12_text_0 : decode cX12_text 0 = .ok (.aload_n 0, 1) := by decide +kernel
theorem dX12_text_1 : decode cX12_text 1 = .ok (.getfield 10, 3) := by decide +kernel
theorem dX12_text_4 : decode cX12_text 4 = .ok (.getfield 96, 3) := by decide +kernel
theorem dX12_text_7 : decode cX12_text 7 = .ok (.iconst 4, 1) := by decide +kernel
theorem dX12_text_8 : decode cX12_text 8 = .ok (.if_icmp .lt 5, 3) := by decide +kernel
theorem dX12_text_11 : decode cX12_text 11 = .ok (.iconst (-1), 1) := by decide +kernel
theorem dX12_text_12 : decode cX12_text 12 = .ok (.ireturn, 1) := by decide +kernel
theorem dX12_text_13 : decode cX12_text 13 = .ok (.aload_n 0, 1) := by decide +kernel
theorem dX12_text_14 : decode cX12_text 14 = .ok (.getfield 29, 3) := by decide +kernel
theorem dX12_text_17 : decode cX12_text 17 = .ok (.aload_n 0, 1) := by decide +kernel
theorem dX12_text_18 : decode cX12_text 18 = .ok (.getfield 22, 3) := by decide +kernel
theorem dX12_text_21 : decode cX12_text 21 = .ok (.invokevirtual 99, 3) := by decide +kernel
theorem dX12_text_24 : decode cX12_text 24 = .ok (.astore_n 1, 1) := by decide +kernel
theorem dX12_text_25 : decode cX12_text 25 = .ok (.aload_n 0, 1) := by decide +kernel
theorem dX12_text_26 : decode cX12_text 26 = .ok (.getfield 22, 3) := by decide +kernel
theorem dX12_text_29 : decode cX12_text 29 = .ok (.iconst 0, 1) := by decide +kernel
theorem dX12_text_30 : decode cX12_text 30 = .ok (.putfield 90, 3) := by decide +kernel
theorem dX12_text_33 : decode cX12_text 33 = .ok (.aload_n 0, 1) := by decide +kernel
theorem dX12_text_34 : decode cX12_text 34 = .ok (.aload_n 0, 1) := by decide +kernel
theorem dX12_text_35 : decode cX12_text 35 = .ok (.getfield 29, 3) := by decide +kernel
theorem dX12_text_38 : decode cX12_text 38 = .ok (.getfield 103, 3) := by decide +kernel
theorem dX12_text_41 : decode cX12_text 41 = .ok (.putfield 61, 3) := by decide +kernel
theorem dX12_text_44 : decode cX12_text 44 = .ok (.aload_n 0, 1) := by decide +kernel
theorem dX12_text_45 : decode cX12_text 45 = .ok (.aload_n 0, 1) := by decide +kernel
theorem dX12_text_46 : decode cX12_text 46 = .ok (.getfield 29, 3) := by decide +kernel
theorem dX12_text_49 : decode cX12_text 49 = .ok (.getfield 103, 3) := by decide +kernel
theorem dX12_text_52 : decode cX12_text 52 = .ok (.ifCond .ne 7, 3) := by decide +kernel
theorem dX12_text_55 : decode cX12_text 55 = .ok (.iconst (-1), 1) := by decide +kernel
theorem dX12_text_56 : decode cX12_text 56 = .ok (.goto 10, 3) := by decide +kernel
theorem dX12_text_59 : decode cX12_text 59 = .ok (.aload_n 0, 1) := by decide +kernel
theorem dX12_text_60 : decode cX12_text 60 = .ok (.getfield 29, 3) := by decide +kernel
theorem dX12_text_63 : decode cX12_text 63 = .ok (.getfield 106, 3) := by decide +kernel
theorem dX12_text_66 : decode cX12_text 66 = .ok (.putfield 65, 3) := by decide +kernel
theorem dX12_text_69 : decode cX12_text 69 = .ok (.aload_n 1, 1) := by decide +kernel
theorem dX12_text_70 : decode cX12_text 70 = .ok (.ifnonnull 7, 3) := by decide +kernel
theorem dX12_text_73 : decode cX12_text 73 = .ok (.iconst (-1), 1) := by decide +kernel
theorem dX12_text_74 : decode cX12_text 74 = .ok (.goto 11, 3) := by decide +kernel
theorem dX12_text_77 : decode cX12_text 77 = .ok (.aload_n 0, 1) := by decide +kernel
theorem dX12_text_78 : decode cX12_text 78 = .ok (.getfield 10, 3) := by decide +kernel
theorem dX12_text_81 : decode cX12_text 81 = .ok (.aload_n 1, 1) := by decide +kernel
theorem dX12_text_82 : decode cX12_text 82 = .ok (.invokevirtual 109, 3) := by decide +kernel
theorem dX12_text_85 : decode cX12_text 85 = .ok (.ireturn, 1) := by decide +kernel
theorem BX12_text_0 {d bc bs : Nat} {h : aH} {n : Nat} {Q : aQ} {ar0 at3 : Nat} {l1 : Option aV} {f1 f5 : List aV} {v7 : Int} (h2 : h ar0 = cO 12 f1) (g4 : f1[0]? = some (vR (some at3))) (h6 : h at3 = cO 11 f5) (g8 : f5[5]? = some (vI v7)) (kt : v7 < 4 → Rn d bc bs mX12_text 13 [some (vR (some ar0)), l1] [] h n Q) (kf : 4 ≤ v7 → Rn d bc bs mX12_text 11 [some (vR (some ar0)), l1] [] h n Q) : Rn d (bc) (bs) mX12_text 0 [some (vR (some ar0)), l1] [] h n Q := by
  refine Rn_aload_n dX12_text_0 rfl rfl rfl ?_
  refine Rn_getfield (ci := 12) (k := 0) dX12_text_1 rfl in_12 (Nat.le_of_ble_eq_true rfl) wd_460 rfl h2 g4 ?_
  refine Rn_getfield (ci := 11) (k := 5) dX12_text_4 rfl in_11 (Nat.le_of_ble_eq_true rfl) wd_302 rfl h6 g8 ?_
  refine Rn_iconst dX12_text_7 rfl ?_
  refine Rn_icmplt (tgt := 13) dX12_text_8 rfl ?_ ?_
  · exact kt
  · exact kf
theorem BX12_text_11 {d bc bs : Nat} {h : aH} {n : Nat} {Q : aQ} {r0 : Option Nat} {l1 : Option aV} (k : Q (some (vI (-1))) h n) : Rn d (bc) (bs) mX12_text 11 [some (vR r0), l1] [] h n Q := by
  refine Rn_iconst dX12_text_11 rfl ?_
  exact Rn_ireturn rfl dX12_text_12 k
theorem BX12_text_13 {d bc bs bc1 bs1 : Nat} {h : aH} {n : Nat} {Q : aQ} {ar0 at3 : Nat} {l1 : Option aV} {f1 f7 : List aV} {t5 : Option Nat} (h2 : h ar0 = cO 12 f1) (g4 : f1[3]? = some (vR (some at3))) (g6 : f1[2]? = some (vR t5)) (h8 : h at3 = cO 1 f7) (k : Rn d bc1 bs1 mX1_readAll 0 [some (vR (some at3)), some (vR t5), none] [] h n (fun v h1 n1 => Rn (d + 1) bc bs mX12_text 24 [some (vR (some ar0)), l1] (v.toList ++ []) h1 n1 Q)) : Rn (d + 1) (bc1 + bc) (bs1 + bs) mX12_text 13 [some (vR (some ar0)), l1] [] h n Q := by
  refine Rn_aload_n dX12_text_13 rfl rfl rfl ?_
  refine Rn_getfield (ci := 12) (k := 3) dX12_text_14 rfl in_12 (Nat.le_of_ble_eq_true rfl) wd_463 rfl h2 g4 ?_
  refine Rn_aload_n dX12_text_17 rfl rfl rfl ?_
  refine Rn_getfield (ci := 12) (k := 2) dX12_text_18 rfl in_12 (Nat.le_of_ble_eq_true rfl) wd_462 rfl h2 g6 ?_
  exact Rn_callV (ci := 1) (avs := [vR t5]) (st := []) (bc1 := bc1) (bs1 := bs1) (bc2 := bc) (bs2 := bs) fx_X1_readAll dX12_text_21 wd_535 wd_536 wd_537 rfl h8 rfl (Nat.le_of_ble_eq_true rfl) (Nat.le_of_ble_eq_true rfl) (by omega) (by omega) (ls1 := [some (vR (some at3)), some (vR t5), none]) rfl k
theorem BX12_text_24 {d bc bs : Nat} {h : aH} {n : Nat} {Q : aQ} {ar0 at3 : Nat} {l1 : Option aV} {q0 : Option Nat} {f1 f5 : List aV} (h2 : h ar0 = cO 12 f1) (g4 : f1[2]? = some (vR (some at3))) (h6 : h at3 = cO 9 f5) (m7 : 1 < f5.length) (k : Rn d bc bs mX12_text 33 [some (vR (some ar0)), some (vR q0)] [] (up h at3 (cO 9 (f5.set 1 (vI 0)))) n Q) : Rn d (bc) (bs) mX12_text 24 [some (vR (some ar0)), l1] [vR q0] h n Q := by
  refine Rn_astore_n dX12_text_24 rfl (Nat.le_of_ble_eq_true rfl) rfl rfl rfl ?_
  refine Rn_aload_n dX12_text_25 rfl rfl rfl ?_
  refine Rn_getfield (ci := 12) (k := 2) dX12_text_26 rfl in_12 (Nat.le_of_ble_eq_true rfl) wd_462 rfl h2 g4 ?_
  refine Rn_iconst dX12_text_29 rfl ?_
  refine Rn_putfield (ci := 9) (k := 1) dX12_text_30 rfl in_9 tyX9_ok nmX9 (Nat.le_of_ble_eq_true rfl) wd_328 rfl (Or.inl rfl) trivial m7 h6 ?_
  exact k
theorem BX12_text_33 {d bc bs : Nat} {h : aH} {n : Nat} {Q : aQ} {ar0 at3 : Nat} {r1 : Option Nat} {f1 f5 : List aV} {v7 : Int} (h2 : h ar0 = cO 12 f1) (g4 : f1[3]? = some (vR (some at3))) (h6 : h at3 = cO 1 f5) (g8 : f5[8]? = some (vI v7)) (m9 : 8 < f1.length) (k : Rn d bc bs mX12_text 44 [some (vR (some ar0)), some (vR r1)] [] (up h ar0 (cO 12 (f1.set 8 (vI v7)))) n Q) : Rn d (bc) (bs) mX12_text 33 [some (vR (some ar0)), some (vR r1)] [] h n Q := by
  refine Rn_aload_n dX12_text_33 rfl rfl rfl ?_
  refine Rn_aload_n dX12_text_34 rfl rfl rfl ?_
  refine Rn_getfield (ci := 12) (k := 3) dX12_text_35 rfl in_12 (Nat.le_of_ble_eq_true rfl) wd_463 rfl h2 g4 ?_
  refine Rn_getfield (ci := 1) (k := 8) dX12_text_38 rfl in_1 (Nat.le_of_ble_eq_true rfl) wd_364 rfl h6 g8 ?_
  refine Rn_putfield (ci := 12) (k := 8) dX12_text_41 rfl in_12 tyX12_ok nmX12 (Nat.le_of_ble_eq_true rfl) wd_468 rfl (Or.inl rfl) trivial m9 h2 ?_
  exact k
theorem BX12_text_44 {d bc bs : Nat} {h : aH} {n : Nat} {Q : aQ} {ar0 at3 : Nat} {r1 : Option Nat} {f1 f5 : List aV} {v7 : Int} (h2 : h ar0 = cO 12 f1) (g4 : f1[3]? = some (vR (some at3))) (h6 : h at3 = cO 1 f5) (g8 : f5[8]? = some (vI v7)) (kt : v7 ≠ 0 → Rn d bc bs mX12_text 59 [some (vR (some ar0)), some (vR r1)] [vR (some ar0)] h n Q) (kf : v7 = 0 → Rn d bc bs mX12_text 55 [some (vR (some ar0)), some (vR r1)] [vR (some ar0)] h n Q) : Rn d (bc) (bs) mX12_text 44 [some (vR (some ar0)), some (vR r1)] [] h n Q := by
  refine Rn_aload_n dX12_text_44 rfl rfl rfl ?_
  refine Rn_aload_n dX12_text_45 rfl rfl rfl ?_
  refine Rn_getfield (ci := 12) (k := 3) dX12_text_46 rfl in_12 (Nat.le_of_ble_eq_true rfl) wd_463 rfl h2 g4 ?_
  refine Rn_getfield (ci := 1) (k := 8) dX12_text_49 rfl in_1 (Nat.le_of_ble_eq_true rfl) wd_364 rfl h6 g8 ?_
  refine Rn_ifne (tgt := 59) dX12_text_52 rfl ?_ ?_
  · exact kt
  · exact kf
theorem BX12_text_55 {d bc bs : Nat} {h : aH} {n : Nat} {Q : aQ} {r0 r1 : Option Nat} {aq0 : Nat} {f1 : List aV} (h2 : h aq0 = cO 12 f1) (m3 : 9 < f1.length) (k : Rn d bc bs mX12_text 69 [some (vR r0), some (vR r1)] [] (up h aq0 (cO 12 (f1.set 9 (vI (-1))))) n Q) : Rn d (bc) (bs) mX12_text 55 [some (vR r0), some (vR r1)] [vR (some aq0)] h n Q := by
  refine Rn_iconst dX12_text_55 rfl ?_
  refine Rn_goto (tgt := 66) dX12_text_56 rfl ?_
  refine Rn_putfield (ci := 12) (k := 9) dX12_text_66 rfl in_12 tyX12_ok nmX12 (Nat.le_of_ble_eq_true rfl) wd_469 rfl (Or.inl rfl) trivial m3 h2 ?_
  exact k
theorem BX12_text_59 {d bc bs : Nat} {h : aH} {n : Nat} {Q : aQ} {ar0 aq0 at3 : Nat} {r1 : Option Nat} {f1 f5 f9 : List aV} {v7 : Int} (h2 : h ar0 = cO 12 f1) (g4 : f1[3]? = some (vR (some at3))) (h6 : h at3 = cO 1 f5) (g8 : f5[9]? = some (vI v7)) (h10 : h aq0 = cO 12 f9) (m11 : 9 < f9.length) (k : Rn d bc bs mX12_text 69 [some (vR (some ar0)), some (vR r1)] [] (up h aq0 (cO 12 (f9.set 9 (vI v7)))) n Q) : Rn d (bc) (bs) mX12_text 59 [some (vR (some ar0)), some (vR r1)] [vR (some aq0)] h n Q := by
  refine Rn_aload_n dX12_text_59 rfl rfl rfl ?_
  refine Rn_getfield (ci := 12) (k := 3) dX12_text_60 rfl in_12 (Nat.le_of_ble_eq_true rfl) wd_463 rfl h2 g4 ?_
  refine Rn_getfield (ci := 1) (k := 9) dX12_text_63 rfl in_1 (Nat.le_of_ble_eq_true rfl) wd_366 rfl h6 g8 ?_
  refine Rn_putfield (ci := 12) (k := 9) dX12_text_66 rfl in_12 tyX12_ok nmX12 (Nat.le_of_ble_eq_true rfl) wd_469 rfl (Or.inl rfl) trivial m11 h10 ?_
  exact k
theorem BX12_text_69 {d bc bs : Nat} {h : aH} {n : Nat} {Q : aQ} {r0 r1 : Option Nat} (kt : ∀ a, r1 = some a → Rn d bc bs mX12_text 77 [some (vR r0), some (vR r1)] [] h n Q) (kf : r1 = none → Rn d bc bs mX12_text 73 [some (vR r0), some (vR r1)] [] h n Q) : Rn d (bc) (bs) mX12_text 69 [some (vR r0), some (vR r1)] [] h n Q := by
  refine Rn_aload_n dX12_text_69 rfl rfl rfl ?_
  refine Rn_ifnonnull (tgt := 77) dX12_text_70 rfl ?_ ?_
  · exact kt
  · exact kf
theorem BX12_text_73 {d bc bs : Nat} {h : aH} {n : Nat} {Q : aQ} {r0 r1 : Option Nat} (k : Q (some (vI (-1))) h n) : Rn d (bc) (bs) mX12_text 73 [some (vR r0), some (vR r1)] [] h n Q := by
  refine Rn_iconst dX12_text_73 rfl ?_
  refine Rn_goto (tgt := 85) dX12_text_74 rfl ?_
  exact Rn_ireturn rfl dX12_text_85 k
theorem BX12_text_77 {d bc bs : Nat} {h : aH} {n : Nat} {Q : aQ} {ar0 at3 : Nat} {r1 : Option Nat} {f1 f5 : List aV} (h2 : h ar0 = cO 12 f1) (g4 : f1[0]? = some (vR (some at3))) (h6 : h at3 = cO 11 f5) (k : Rn d 0 0 mX11_addText 0 [some (vR (some at3)), some (vR r1)] [] h n (fun v h1 n1 => Rn (d + 1) bc bs mX12_text 85 [some (vR (some ar0)), some (vR r1)] (v.toList ++ []) h1 n1 Q)) : Rn (d + 1) (bc) (bs) mX12_text 77 [some (vR (some ar0)), some (vR r1)] [] h n Q := by
  refine Rn_aload_n dX12_text_77 rfl rfl rfl ?_
  refine Rn_getfield (ci := 12) (k := 0) dX12_text_78 rfl in_12 (Nat.le_of_ble_eq_true rfl) wd_460 rfl h2 g4 ?_
  refine Rn_aload_n dX12_text_81 rfl rfl rfl ?_
  exact Rn_callV (ci := 11) (avs := [vR r1]) (st := []) (bc1 := 0) (bs1 := 0) (bc2 := bc) (bs2 := bs) fx_X11_addText dX12_text_82 wd_761 wd_762 wd_763 rfl h6 rfl (Nat.le_of_ble_eq_true rfl) (Nat.le_of_ble_eq_true rfl) (by omega) (by omega) (ls1 := [some (vR (some at3)), some (vR r1)]) rfl k
theorem BX12_text_85 {d bc bs : Nat} {h : aH} {n : Nat} {Q : aQ} {r0 r1 : Option Nat} {s0 : Int} (k : Q (some (vI s0)) h n) : Rn d (bc) (bs) mX12_text 85 [some (vR r0), some (vR r1)] [vI s0] h n Q := by
  exact Rn_ireturn rfl dX12_text_85 k
theorem dX12_fault_0 : decode cX12_fault 0 = .ok (.iload_n 1, 1) := by decide +kernel
theorem dX12_fault_1 : decode cX12_fault 1 = .ok (.ifCond .ne 8, 3) := by decide +kernel
theorem dX12_fault_4 : decode cX12_fault 4 = .ok (.aload_n 0, 1) := by decide +kernel
theorem dX12_fault_5 : decode cX12_fault 5 = .ok (.getfield 61, 3) := by decide +kernel
theorem dX12_fault_8 : decode cX12_fault 8 = .ok (.ireturn, 1) := by decide +kernel
theorem dX12_fault_9 : decode cX12_fault 9 = .ok (.iload_n 1, 1) := by decide +kernel
theorem dX12_fault_10 : decode cX12_fault 10 = .ok (.iconst 1, 1) := by decide +kernel
theorem dX12_fault_11 : decode cX12_fault 11 = .ok (.if_icmp .ne 8, 3) := by decide +kernel
theorem dX12_fault_14 : decode cX12_fault 14 = .ok (.aload_n 0, 1) := by decide +kernel
theorem dX12_fault_15 : decode cX12_fault 15 = .ok (.getfield 65, 3) := by decide +kernel
theorem dX12_fault_18 : decode cX12_fault 18 = .ok (.ireturn, 1) := by decide +kernel
theorem dX12_fault_19 : decode cX12_fault 19 = .ok (.iconst (-1), 1) := by decide +kernel
theorem dX12_fault_20 : decode cX12_fault 20 = .ok (.ireturn, 1) := by decide +kernel
theorem BX12_fault_0 {d bc bs : Nat} {h : aH} {n : Nat} {Q : aQ} {r0 : Option Nat} {x1 : Int} (kt : x1 ≠ 0 → Rn d bc bs mX12_fault 9 [some (vR r0), some (vI x1)] [] h n Q) (kf : x1 = 0 → Rn d bc bs mX12_fault 4 [some (vR r0), some (vI x1)] [] h n Q) : Rn d (bc) (bs) mX12_fault 0 [some (vR r0), some (vI x1)] [] h n Q := by
  refine Rn_iload_n dX12_fault_0 rfl rfl ?_
  refine Rn_ifne (tgt := 9) dX12_fault_1 rfl ?_ ?_
  · exact kt
  · exact kf
theorem BX12_fault_4 {d bc bs : Nat} {h : aH} {n : Nat} {Q : aQ} {ar0 : Nat} {x1 v3 : Int} {f1 : List aV} (h2 : h ar0 = cO 12 f1) (g4 : f1[8]? = some (vI v3)) (k : Q (some (vI v3)) h n) : Rn d (bc) (bs) mX12_fault 4 [some (vR (some ar0)), some (vI x1)] [] h n Q := by
  refine Rn_aload_n dX12_fault_4 rfl rfl rfl ?_
  refine Rn_getfield (ci := 12) (k := 8) dX12_fault_5 rfl in_12 (Nat.le_of_ble_eq_true rfl) wd_468 rfl h2 g4 ?_
  exact Rn_ireturn rfl dX12_fault_8 k
theorem BX12_fault_9 {d bc bs : Nat} {h : aH} {n : Nat} {Q : aQ} {r0 : Option Nat} {x1 : Int} (kt : x1 ≠ 1 → Rn d bc bs mX12_fault 19 [some (vR r0), some (vI x1)] [] h n Q) (kf : x1 = 1 → Rn d bc bs mX12_fault 14 [some (vR r0), some (vI x1)] [] h n Q) : Rn d (bc) (bs) mX12_fault 9 [some (vR r0), some (vI x1)] [] h n Q := by
  refine Rn_iload_n dX12_fault_9 rfl rfl ?_
  refine Rn_iconst dX12_fault_10 rfl ?_
  refine Rn_icmpne (tgt := 19) dX12_fault_11 rfl ?_ ?_
  · exact kt
  · exact kf
theorem BX12_fault_14 {d bc bs : Nat} {h : aH} {n : Nat} {Q : aQ} {ar0 : Nat} {x1 v3 : Int} {f1 : List aV} (h2 : h ar0 = cO 12 f1) (g4 : f1[9]? = some (vI v3)) (k : Q (some (vI v3)) h n) : Rn d (bc) (bs) mX12_fault 14 [some (vR (some ar0)), some (vI x1)] [] h n Q := by
  refine Rn_aload_n dX12_fault_14 rfl rfl rfl ?_
  refine Rn_getfield (ci := 12) (k := 9) dX12_fault_15 rfl in_12 (Nat.le_of_ble_eq_true rfl) wd_469 rfl h2 g4 ?_
  exact Rn_ireturn rfl dX12_fault_18 k
theorem BX12_fault_19 {d bc bs : Nat} {h : aH} {n : Nat} {Q : aQ} {r0 : Option Nat} {x1 : Int} (k : Q (some (vI (-1))) h n) : Rn d (bc) (bs) mX12_fault 19 [some (vR r0), some (vI x1)] [] h n Q := by
  refine Rn_iconst dX12_fault_19 rfl ?_
  exact Rn_ireturn rfl dX12_fault_20 k
theorem dX12_by_0 : decode cX12_by 0 = .ok (.iload_n 1, 1) := by decide +kernel
theorem dX12_by_1 : decode cX12_by 1 = .ok (.iconst (-1), 1) := by decide +kernel
theorem dX12_by_2 : decode cX12_by 2 = .ok (.aload_n 0, 1) := by decide +kernel
theorem dX12_by_3 : decode cX12_by 3 = .ok (.getfield 10, 3) := by decide +kernel
theorem dX12_by_6 : decode cX12_by 6 = .ok (.getfield 96, 3) := by decide +kernel
theorem dX12_by_9 : decode cX12_by 9 = .ok (.iconst 1, 1) := by decide +kernel
theorem dX12_by_10 : decode cX12_by 10 = .ok (.isub, 1) := by decide +kernel
theorem dX12_by_11 : decode cX12_by 11 = .ok (.invokestatic 93, 3) := by decide +kernel
theorem dX12_by_14 : decode cX12_by 14 = .ok (.ifCond .ne 5, 3) := by decide +kernel
theorem dX12_by_17 : decode cX12_by 17 = .ok (.iconst 0, 1) := by decide +kernel
theorem dX12_by_18 : decode cX12_by 18 = .ok (.ireturn, 1) := by decide +kernel
theorem dX12_by_19 : decode cX12_by 19 = .ok (.aload_n 0, 1) := by decide +kernel
theorem dX12_by_20 : decode cX12_by 20 = .ok (.getfield 10, 3) := by decide +kernel
theorem dX12_by_23 : decode cX12_by 23 = .ok (.iload_n 1, 1) := by decide +kernel
theorem dX12_by_24 : decode cX12_by 24 = .ok (.putfield 113, 3) := by decide +kernel
theorem dX12_by_27 : decode cX12_by 27 = .ok (.iconst 1, 1) := by decide +kernel
theorem dX12_by_28 : decode cX12_by 28 = .ok (.ireturn, 1) := by decide +kernel
theorem BX12_by_0 {d bc bs : Nat} {h : aH} {n : Nat} {Q : aQ} {ar0 at3 : Nat} {x1 v7 : Int} {f1 f5 : List aV} (h2 : h ar0 = cO 12 f1) (g4 : f1[0]? = some (vR (some at3))) (h6 : h at3 = cO 11 f5) (g8 : f5[5]? = some (vI v7)) (b9 : -2147483648 ≤ v7 - 1 ∧ v7 - 1 < 2147483648) (k : Rn d 0 0 mX12_within 0 [some (vI x1), some (vI (-1)), some (vI (v7 - 1))] [] h n (fun v h1 n1 => Rn (d + 1) bc bs mX12_by 14 [some (vR (some ar0)), some (vI x1)] (v.toList ++ []) h1 n1 Q)) : Rn (d + 1) (bc) (bs) mX12_by 0 [some (vR (some ar0)), some (vI x1)] [] h n Q := by
  refine Rn_iload_n dX12_by_0 rfl rfl ?_
  refine Rn_iconst dX12_by_1 rfl ?_
  refine Rn_aload_n dX12_by_2 rfl rfl rfl ?_
  refine Rn_getfield (ci := 12) (k := 0) dX12_by_3 rfl in_12 (Nat.le_of_ble_eq_true rfl) wd_460 rfl h2 g4 ?_
  refine Rn_getfield (ci := 11) (k := 5) dX12_by_6 rfl in_11 (Nat.le_of_ble_eq_true rfl) wd_302 rfl h6 g8 ?_
  refine Rn_iconst dX12_by_9 rfl ?_
  refine Rn_isub dX12_by_10 ?_
  rw [w32_id b9.1 b9.2]
  exact Rn_callS (avs := [vI x1, vI (-1), vI (v7 - 1)]) (st := []) (bc1 := 0) (bs1 := 0) (bc2 := bc) (bs2 := bs) fx_X12_within dX12_by_11 (Or.inl wd_502) wd_503 rfl (Nat.le_of_ble_eq_true rfl) (Nat.le_of_ble_eq_true rfl) (by omega) (by omega) (ls1 := [some (vI x1), some (vI (-1)), some (vI (v7 - 1))]) rfl k
theorem BX12_by_14 {d bc bs : Nat} {h : aH} {n : Nat} {Q : aQ} {r0 : Option Nat} {x1 s0 : Int} (kt : s0 ≠ 0 → Rn d bc bs mX12_by 19 [some (vR r0), some (vI x1)] [] h n Q) (kf : s0 = 0 → Rn d bc bs mX12_by 17 [some (vR r0), some (vI x1)] [] h n Q) : Rn d (bc) (bs) mX12_by 14 [some (vR r0), some (vI x1)] [vI s0] h n Q := by
  refine Rn_ifne (tgt := 19) dX12_by_14 rfl ?_ ?_
  · exact kt
  · exact kf
theorem BX12_by_17 {d bc bs : Nat} {h : aH} {n : Nat} {Q : aQ} {r0 : Option Nat} {x1 : Int} (k : Q (some (vI 0)) h n) : Rn d (bc) (bs) mX12_by 17 [some (vR r0), some (vI x1)] [] h n Q := by
  refine Rn_iconst dX12_by_17 rfl ?_
  exact Rn_zreturn rfl dX12_by_18 (by decide) k
theorem BX12_by_19 {d bc bs : Nat} {h : aH} {n : Nat} {Q : aQ} {ar0 at3 : Nat} {x1 : Int} {f1 f5 : List aV} (h2 : h ar0 = cO 12 f1) (g4 : f1[0]? = some (vR (some at3))) (h6 : h at3 = cO 11 f5) (m7 : 6 < f5.length) (k : Rn d bc bs mX12_by 27 [some (vR (some ar0)), some (vI x1)] [] (up h at3 (cO 11 (f5.set 6 (vI x1)))) n Q) : Rn d (bc) (bs) mX12_by 19 [some (vR (some ar0)), some (vI x1)] [] h n Q := by
  refine Rn_aload_n dX12_by_19 rfl rfl rfl ?_
  refine Rn_getfield (ci := 12) (k := 0) dX12_by_20 rfl in_12 (Nat.le_of_ble_eq_true rfl) wd_460 rfl h2 g4 ?_
  refine Rn_iload_n dX12_by_23 rfl rfl ?_
  refine Rn_putfield (ci := 11) (k := 6) dX12_by_24 rfl in_11 tyX11_ok nmX11 (Nat.le_of_ble_eq_true rfl) wd_304 rfl (Or.inl rfl) trivial m7 h6 ?_
  exact k
theorem BX12_by_27 {d bc bs : Nat} {h : aH} {n : Nat} {Q : aQ} {r0 : Option Nat} {x1 : Int} (k : Q (some (vI 1)) h n) : Rn d (bc) (bs) mX12_by 27 [some (vR r0), some (vI x1)] [] h n Q := by
  refine Rn_iconst dX12_by_27 rfl ?_
  exact Rn_zreturn rfl dX12_by_28 (by decide) k
theorem dX12_toss_0 : decode cX12_toss 0 = .ok (.aload_n 0, 1) := by decide +kernel
theorem dX12_toss_1 : decode cX12_toss 1 = .ok (.iload_n 1, 1) := by decide +kernel
theorem dX12_toss_2 : decode cX12_toss 2 = .ok (.iload_n 2, 1) := by decide +kernel
theorem dX12_toss_3 : decode cX12_toss 3 = .ok (.iload_n 3, 1) := by decide +kernel
theorem dX12_toss_4 : decode cX12_toss 4 = .ok (.iconst 1, 1) := by decide +kernel
theorem dX12_toss_5 : decode cX12_toss 5 = .ok (.invokevirtual 116, 3) := by decide +kernel
theorem dX12_toss_8 : decode cX12_toss 8 = .ok (.ireturn, 1) := by decide +kernel
theorem BX12_toss_0 {d bc bs : Nat} {h : aH} {n : Nat} {Q : aQ} {ar0 : Nat} {x1 x2 x3 : Int} {f1 : List aV} (h2 : h ar0 = cO 12 f1) (k : Rn d 0 0 mX12_tossBottle 0 [some (vR (some ar0)), some (vI x1), some (vI x2), some (vI x3), some (vI 1), none] [] h n (fun v h1 n1 => Rn (d + 1) bc bs mX12_toss 8 [some (vR (some ar0)), some (vI x1), some (vI x2), some (vI x3)] (v.toList ++ []) h1 n1 Q)) : Rn (d + 1) (bc) (bs) mX12_toss 0 [some (vR (some ar0)), some (vI x1), some (vI x2), some (vI x3)] [] h n Q := by
  refine Rn_aload_n dX12_toss_0 rfl rfl rfl ?_
  refine Rn_iload_n dX12_toss_1 rfl rfl ?_
  refine Rn_iload_n dX12_toss_2 rfl rfl ?_
  refine Rn_iload_n dX12_toss_3 rfl rfl ?_
  refine Rn_iconst dX12_toss_4 rfl ?_
  exact Rn_callV (ci := 12) (avs := [vI x1, vI x2, vI x3, vI 1]) (st := []) (bc1 := 0) (bs1 := 0) (bc2 := bc) (bs2 := bs) fx_X12_tossBottle dX12_toss_5 wd_777 wd_779 wd_27 rfl h2 rfl (Nat.le_of_ble_eq_true rfl) (Nat.le_of_ble_eq_true rfl) (by omega) (by omega) (ls1 := [some (vR (some ar0)), some (vI x1), some (vI x2), some (vI x3), some (vI 1), none]) rfl k
theorem BX12_toss_8 {d bc bs : Nat} {h : aH} {n : Nat} {Q : aQ} {r0 : Option Nat} {x1 x2 x3 s0 : Int} (k : Q (some (vI s0)) h n) : Rn d (bc) (bs) mX12_toss 8 [some (vR r0), some (vI x1), some (vI x2), some (vI x3)] [vI s0] h n Q := by
  exact Rn_ireturn rfl dX12_toss_8 k
theorem dX12_fish_0 : decode cX12_fish 0 = .ok (.aload_n 0, 1) := by decide +kernel
theorem dX12_fish_1 : decode cX12_fish 1 = .ok (.iload_n 1, 1) := by decide +kernel
theorem dX12_fish_2 : decode cX12_fish 2 = .ok (.iload_n 2, 1) := by decide +kernel
theorem dX12_fish_3 : decode cX12_fish 3 = .ok (.iconst 1, 1) := by decide +kernel
theorem dX12_fish_4 : decode cX12_fish 4 = .ok (.invokevirtual 120, 3) := by decide +kernel
theorem dX12_fish_7 : decode cX12_fish 7 = .ok (.ireturn, 1) := by decide +kernel
theorem BX12_fish_0 {d bc bs : Nat} {h : aH} {n : Nat} {Q : aQ} {ar0 : Nat} {x1 x2 : Int} {f1 : List aV} (h2 : h ar0 = cO 12 f1) (k : Rn d 0 0 mX12_fishBottle 0 [some (vR (some ar0)), some (vI x1), some (vI x2), some (vI 1), none, none] [] h n (fun v h1 n1 => Rn (d + 1) bc bs mX12_fish 7 [some (vR (some ar0)), some (vI x1), some (vI x2)] (v.toList ++ []) h1 n1 Q)) : Rn (d + 1) (bc) (bs) mX12_fish 0 [some (vR (some ar0)), some (vI x1), some (vI x2)] [] h n Q := by
  refine Rn_aload_n dX12_fish_0 rfl rfl rfl ?_
  refine Rn_iload_n dX12_fish_1 rfl rfl ?_
  refine Rn_iload_n dX12_fish_2 rfl rfl ?_
  refine Rn_iconst dX12_fish_3 rfl ?_
  exact Rn_callV (ci := 12) (avs := [vI x1, vI x2, vI 1]) (st := []) (bc1 := 0) (bs1 := 0) (bc2 := bc) (bs2 := bs) fx_X12_fishBottle dX12_fish_4 wd_827 wd_829 wd_30 rfl h2 rfl (Nat.le_of_ble_eq_true rfl) (Nat.le_of_ble_eq_true rfl) (by omega) (by omega) (ls1 := [some (vR (some ar0)), some (vI x1), some (vI x2), some (vI 1), none, none]) rfl k
theorem BX12_fish_7 {d bc bs : Nat} {h : aH} {n : Nat} {Q : aQ} {r0 : Option Nat} {x1 x2 s0 : Int} (b1 : s0 = 0 ∨ s0 = 1) (k : Q (some (vI s0)) h n) : Rn d (bc) (bs) mX12_fish 7 [some (vR r0), some (vI x1), some (vI x2)] [vI s0] h n Q := by
  exact Rn_zreturn rfl dX12_fish_7 b1 k
theorem dX12_again_0 : decode cX12_again 0 = .ok (.aload_n 0, 1) := by decide +kernel
theorem dX12_again_1 : decode cX12_again 1 = .ok (.iload_n 1, 1) := by decide +kernel
theorem dX12_again_2 : decode cX12_again 2 = .ok (.iconst 1, 1) := by decide +kernel
theorem dX12_again_3 : decode cX12_again 3 = .ok (.invokevirtual 124, 3) := by decide +kernel
theorem dX12_again_6 : decode cX12_again 6 = .ok (.ireturn, 1) := by decide +kernel
theorem BX12_again_0 {d bc bs : Nat} {h : aH} {n : Nat} {Q : aQ} {ar0 : Nat} {x1 : Int} {f1 : List aV} (h2 : h ar0 = cO 12 f1) (k : Rn d 0 0 mX12_tossAgain 0 [some (vR (some ar0)), some (vI x1), some (vI 1), none] [] h n (fun v h1 n1 => Rn (d + 1) bc bs mX12_again 6 [some (vR (some ar0)), some (vI x1)] (v.toList ++ []) h1 n1 Q)) : Rn (d + 1) (bc) (bs) mX12_again 0 [some (vR (some ar0)), some (vI x1)] [] h n Q := by
  refine Rn_aload_n dX12_again_0 rfl rfl rfl ?_
  refine Rn_iload_n dX12_again_1 rfl rfl ?_
  refine Rn_iconst dX12_again_2 rfl ?_
  exact Rn_callV (ci := 12) (avs := [vI x1, vI 1]) (st := []) (bc1 := 0) (bs1 := 0) (bc2 := bc) (bs2 := bs) fx_X12_tossAgain dX12_again_3 wd_858 wd_860 wd_31 rfl h2 rfl (Nat.le_of_ble_eq_true rfl) (Nat.le_of_ble_eq_true rfl) (by omega) (by omega) (ls1 := [some (vR (some ar0)), some (vI x1), some (vI 1), none]) rfl k
theorem BX12_again_6 {d bc bs : Nat} {h : aH} {n : Nat} {Q : aQ} {r0 : Option Nat} {x1 s0 : Int} (b1 : s0 = 0 ∨ s0 = 1) (k : Q (some (vI s0)) h n) : Rn d (bc) (bs) mX12_again 6 [some (vR r0), some (vI x1)] [vI s0] h n Q := by
  exact Rn_zreturn rfl dX12_again_6 b1 k
theorem dX12_tide_0 : decode cX12_tide 0 = .ok (.iload_n 1, 1) := by decide +kernel
theorem dX12_tide_1 : decode cX12_tide 1 = .ok (.iconst 1, 1) := by decide +kernel
theorem dX12_tide_2 : decode cX12_tide 2 = .ok (.bipush 60, 2) := by decide +kernel
theorem dX12_tide_4 : decode cX12_tide 4 = .ok (.invokestatic 93, 3) := by decide +kernel
theorem dX12_tide_7 : decode cX12_tide 7 = .ok (.ifCond .eq 21, 3) := by decide +kernel
theorem dX12_tide_10 : decode cX12_tide 10 = .ok (.aload_n 0, 1) := by decide +kernel
theorem dX12_tide_11 : decode cX12_tide 11 = .ok (.getfield 10, 3) := by decide +kernel
theorem dX12_tide_14 : decode cX12_tide 14 = .ok (.getfield 128, 3) := by decide +kernel
theorem dX12_tide_17 : decode cX12_tide 17 = .ok (.getfield 131, 3) := by decide +kernel
theorem dX12_tide_20 : decode cX12_tide 20 = .ok (.iload_n 1, 1) := by decide +kernel
theorem dX12_tide_21 : decode cX12_tide 21 = .ok (.iadd, 1) := by decide +kernel
theorem dX12_tide_22 : decode cX12_tide 22 = .ok (.sipush 9999, 3) := by decide +kernel
theorem dX12_tide_25 : decode cX12_tide 25 = .ok (.if_icmp .le 5, 3) := by decide +kernel
theorem dX12_tide_28 : decode cX12_tide 28 = .ok (.iconst (-1), 1) := by decide +kernel
theorem dX12_tide_29 : decode cX12_tide 29 = .ok (.ireturn, 1) := by decide +kernel
theorem dX12_tide_30 : decode cX12_tide 30 = .ok (.aload_n 0, 1) := by decide +kernel
theorem dX12_tide_31 : decode cX12_tide 31 = .ok (.iload_n 1, 1) := by decide +kernel
theorem dX12_tide_32 : decode cX12_tide 32 = .ok (.invokevirtual 134, 3) := by decide +kernel
theorem dX12_tide_35 : decode cX12_tide 35 = .ok (.ireturn, 1) := by decide +kernel
theorem BX12_tide_0 {d bc bs : Nat} {h : aH} {n : Nat} {Q : aQ} {r0 : Option Nat} {x1 : Int} (k : Rn d 0 0 mX12_within 0 [some (vI x1), some (vI 1), some (vI 60)] [] h n (fun v h1 n1 => Rn (d + 1) bc bs mX12_tide 7 [some (vR r0), some (vI x1)] (v.toList ++ []) h1 n1 Q)) : Rn (d + 1) (bc) (bs) mX12_tide 0 [some (vR r0), some (vI x1)] [] h n Q := by
  refine Rn_iload_n dX12_tide_0 rfl rfl ?_
  refine Rn_iconst dX12_tide_1 rfl ?_
  refine Rn_bipush dX12_tide_2 rfl ?_
  exact Rn_callS (avs := [vI x1, vI 1, vI 60]) (st := []) (bc1 := 0) (bs1 := 0) (bc2 := bc) (bs2 := bs) fx_X12_within dX12_tide_4 (Or.inl wd_502) wd_503 rfl (Nat.le_of_ble_eq_true rfl) (Nat.le_of_ble_eq_true rfl) (by omega) (by omega) (ls1 := [some (vI x1), some (vI 1), some (vI 60)]) rfl k
theorem BX12_tide_7 {d bc bs : Nat} {h : aH} {n : Nat} {Q : aQ} {r0 : Option Nat} {x1 s0 : Int} (kt : s0 = 0 → Rn d bc bs mX12_tide 28 [some (vR r0), some (vI x1)] [] h n Q) (kf : s0 ≠ 0 → Rn d bc bs mX12_tide 10 [some (vR r0), some (vI x1)] [] h n Q) : Rn d (bc) (bs) mX12_tide 7 [some (vR r0), some (vI x1)] [vI s0] h n Q := by
  refine Rn_ifeq (tgt := 28) dX12_tide_7 rfl ?_ ?_
  · exact kt
  · exact kf
theorem BX12_tide_10 {d bc bs : Nat} {h : aH} {n : Nat} {Q : aQ} {ar0 at3 at7 : Nat} {x1 v11 : Int} {f1 f5 f9 : List aV} (h2 : h ar0 = cO 12 f1) (g4 : f1[0]? = some (vR (some at3))) (h6 : h at3 = cO 11 f5) (g8 : f5[1]? = some (vR (some at7))) (h10 : h at7 = cO 6 f9) (g12 : f9[3]? = some (vI v11)) (b13 : -2147483648 ≤ v11 + x1 ∧ v11 + x1 < 2147483648) (kt : (v11 + x1) ≤ 9999 → Rn d bc bs mX12_tide 30 [some (vR (some ar0)), some (vI x1)] [] h n Q) (kf : 9999 < (v11 + x1) → Rn d bc bs mX12_tide 28 [some (vR (some ar0)), some (vI x1)] [] h n Q) : Rn d (bc) (bs) mX12_tide 10 [some (vR (some ar0)), some (vI x1)] [] h n Q := by
  refine Rn_aload_n dX12_tide_10 rfl rfl rfl ?_
  refine Rn_getfield (ci := 12) (k := 0) dX12_tide_11 rfl in_12 (Nat.le_of_ble_eq_true rfl) wd_460 rfl h2 g4 ?_
  refine Rn_getfield (ci := 11) (k := 1) dX12_tide_14 rfl in_11 (Nat.le_of_ble_eq_true rfl) wd_295 rfl h6 g8 ?_
  refine Rn_getfield (ci := 6) (k := 3) dX12_tide_17 rfl in_6 (Nat.le_of_ble_eq_true rfl) wd_210 rfl h10 g12 ?_
  refine Rn_iload_n dX12_tide_20 rfl rfl ?_
  refine Rn_iadd dX12_tide_21 ?_
  rw [w32_id b13.1 b13.2]
  refine Rn_sipush dX12_tide_22 rfl ?_
  refine Rn_icmple (tgt := 30) dX12_tide_25 rfl ?_ ?_
  · exact kt
  · exact kf
theorem BX12_tide_28 {d bc bs : Nat} {h : aH} {n : Nat} {Q : aQ} {r0 : Option Nat} {x1 : Int} (k : Q (some (vI (-1))) h n) : Rn d (bc) (bs) mX12_tide 28 [some (vR r0), some (vI x1)] [] h n Q := by
  refine Rn_iconst dX12_tide_28 rfl ?_
  exact Rn_ireturn rfl dX12_tide_29 k
theorem BX12_tide_30 {d bc bs : Nat} {h : aH} {n : Nat} {Q : aQ} {ar0 : Nat} {x1 : Int} {f1 : List aV} (h2 : h ar0 = cO 12 f1) (k : Rn d 0 0 mX12_passTides 0 [some (vR (some ar0)), some (vI x1), none, none] [] h n (fun v h1 n1 => Rn (d + 1) bc bs mX12_tide 35 [some (vR (some ar0)), some (vI x1)] (v.toList ++ []) h1 n1 Q)) : Rn (d + 1) (bc) (bs) mX12_tide 30 [some (vR (some ar0)), some (vI x1)] [] h n Q := by
  refine Rn_aload_n dX12_tide_30 rfl rfl rfl ?_
  refine Rn_iload_n dX12_tide_31 rfl rfl ?_
  exact Rn_callV (ci := 12) (avs := [vI x1]) (st := []) (bc1 := 0) (bs1 := 0) (bc2 := bc) (bs2 := bs) fx_X12_passTides dX12_tide_32 wd_867 wd_869 wd_32 rfl h2 rfl (Nat.le_of_ble_eq_true rfl) (Nat.le_of_ble_eq_true rfl) (by omega) (by omega) (ls1 := [some (vR (some ar0)), some (vI x1), none, none]) rfl k
theorem BX12_tide_35 {d bc bs : Nat} {h : aH} {n : Nat} {Q : aQ} {r0 : Option Nat} {x1 s0 : Int} (k : Q (some (vI s0)) h n) : Rn d (bc) (bs) mX12_tide 35 [some (vR r0), some (vI x1)] [vI s0] h n Q := by
  exact Rn_ireturn rfl dX12_tide_35 k
theorem dX12_played_0 : decode cX12_played 0 = .ok (.aload_n 0, 1) := by decide +kernel
theorem dX12_played_1 : decode cX12_played 1 = .ok (.getfield 10, 3) := by decide +kernel
theorem dX12_played_4 : decode cX12_played 4 = .ok (.iload_n 1, 1) := by decide +kernel
theorem dX12_played_5 : decode cX12_played 5 = .ok (.invokevirtual 138, 3) := by decide +kernel
theorem dX12_played_8 : decode cX12_played 8 = .ok (.astore_n 2, 1) := by decide +kernel
theorem dX12_played_9 : decode cX12_played 9 = .ok (.aload_n 2, 1) := by decide +kernel
theorem dX12_played_10 : decode cX12_played 10 = .ok (.ifnonnull 6, 3) := by decide +kernel
theorem dX12_played_13 : decode cX12_played 13 = .ok (.bipush (-2), 2) := by decide +kernel
theorem dX12_played_15 : decode cX12_played 15 = .ok (.ireturn, 1) := by decide +kernel
theorem dX12_played_16 : decode cX12_played 16 = .ok (.aload_n 2, 1) := by decide +kernel
theorem dX12_played_17 : decode cX12_played 17 = .ok (.invokevirtual 142, 3) := by decide +kernel
theorem dX12_played_20 : decode cX12_played 20 = .ok (.istore_n 3, 1) := by decide +kernel
theorem dX12_played_21 : decode cX12_played 21 = .ok (.iconst 0, 1) := by decide +kernel
theorem dX12_played_22 : decode cX12_played 22 = .ok (.istore 4, 2) := by decide +kernel
theorem dX12_played_24 : decode cX12_played 24 = .ok (.iload 4, 2) := by decide +kernel
theorem dX12_played_26 : decode cX12_played 26 = .ok (.iload_n 3, 1) := by decide +kernel
theorem dX12_played_27 : decode cX12_played 27 = .ok (.if_icmp .ge 22, 3) := by decide +kernel
theorem dX12_played_30 : decode cX12_played 30 = .ok (.aload_n 0, 1) := by decide +kernel
theorem dX12_played_31 : decode cX12_played 31 = .ok (.aload_n 2, 1) := by decide +kernel
theorem dX12_played_32 : decode cX12_played 32 = .ok (.iload 4, 2) := by decide +kernel
theorem dX12_played_34 : decode cX12_played 34 = .ok (.invokevirtual 148, 3) := by decide +kernel
theorem dX12_played_37 : decode cX12_played 37 = .ok (.ifCond .ne 6, 3) := by decide +kernel
theorem dX12_played_40 : decode cX12_played 40 = .ok (.iload 4, 2) := by decide +kernel
theorem dX12_played_42 : decode cX12_played 42 = .ok (.ireturn, 1) := by decide +kernel
theorem dX12_played_43 : decode cX12_played 43 = .ok (.iinc 4 1, 3) := by decide +kernel
theorem dX12_played_46 : decode cX12_played 46 = .ok (.goto (-22), 3) := by decide +kernel
theorem dX12_played_49 : decode cX12_played 49 = .ok (.iconst (-1), 1) := by decide +kernel
theorem dX12_played_50 : decode cX12_played 50 = .ok (.ireturn, 1) := by decide +kernel
theorem BX12_played_0 {d bc bs : Nat} {h : aH} {n : Nat} {Q : aQ} {ar0 at3 : Nat} {x1 : Int} {l2 l3 l4 : Option aV} {f1 f5 : List aV} (h2 : h ar0 = cO 12 f1) (g4 : f1[0]? = some (vR (some at3))) (h6 : h at3 = cO 11 f5) (k : Rn d 0 0 mX11_textOf 0 [some (vR (some at3)), some (vI x1)] [] h n (fun v h1 n1 => Rn (d + 1) bc bs mX12_played 8 [some (vR (some ar0)), some (vI x1), l2, l3, l4] (v.toList ++ []) h1 n1 Q)) : Rn (d + 1) (bc) (bs) mX12_played 0 [some (vR (some ar0)), some (vI x1), l2, l3, l4] [] h n Q := by
  refine Rn_aload_n dX12_played_0 rfl rfl rfl ?_
  refine Rn_getfield (ci := 12) (k := 0) dX12_played_1 rfl in_12 (Nat.le_of_ble_eq_true rfl) wd_460 rfl h2 g4 ?_
  refine Rn_iload_n dX12_played_4 rfl rfl ?_
  exact Rn_callV (ci := 11) (avs := [vI x1]) (st := []) (bc1 := 0) (bs1 := 0) (bc2 := bc) (bs2 := bs) fx_X11_textOf dX12_played_5 wd_953 wd_876 wd_877 rfl h6 rfl (Nat.le_of_ble_eq_true rfl) (Nat.le_of_ble_eq_true rfl) (by omega) (by omega) (ls1 := [some (vR (some at3)), some (vI x1)]) rfl k
theorem BX12_played_8 {d bc bs : Nat} {h : aH} {n : Nat} {Q : aQ} {r0 q0 : Option Nat} {x1 : Int} {l2 l3 l4 : Option aV} (kt : ∀ a, q0 = some a → Rn d bc bs mX12_played 16 [some (vR r0), some (vI x1), some (vR q0), l3, l4] [] h n Q) (kf : q0 = none → Rn d bc bs mX12_played 13 [some (vR r0), some (vI x1), some (vR q0), l3, l4] [] h n Q) : Rn d (bc) (bs) mX12_played 8 [some (vR r0), some (vI x1), l2, l3, l4] [vR q0] h n Q := by
  refine Rn_astore_n dX12_played_8 rfl (Nat.le_of_ble_eq_true rfl) rfl rfl rfl ?_
  refine Rn_aload_n dX12_played_9 rfl rfl rfl ?_
  refine Rn_ifnonnull (tgt := 16) dX12_played_10 rfl ?_ ?_
  · exact kt
  · exact kf
theorem BX12_played_13 {d bc bs : Nat} {h : aH} {n : Nat} {Q : aQ} {r0 r2 : Option Nat} {x1 : Int} {l3 l4 : Option aV} (k : Q (some (vI (-2))) h n) : Rn d (bc) (bs) mX12_played 13 [some (vR r0), some (vI x1), some (vR r2), l3, l4] [] h n Q := by
  refine Rn_bipush dX12_played_13 rfl ?_
  exact Rn_ireturn rfl dX12_played_15 k
theorem BX12_played_16 {d bc bs : Nat} {h : aH} {n : Nat} {Q : aQ} {r0 : Option Nat} {x1 : Int} {ar2 : Nat} {l3 l4 : Option aV} {f1 : List aV} (h2 : h ar2 = cO 10 f1) (k : Rn d 0 0 mX10_countClauses 0 [some (vR (some ar2))] [] h n (fun v h1 n1 => Rn (d + 1) bc bs mX12_played 20 [some (vR r0), some (vI x1), some (vR (some ar2)), l3, l4] (v.toList ++ []) h1 n1 Q)) : Rn (d + 1) (bc) (bs) mX12_played 16 [some (vR r0), some (vI x1), some (vR (some ar2)), l3, l4] [] h n Q := by
  refine Rn_aload_n dX12_played_16 rfl rfl rfl ?_
  exact Rn_callV (ci := 10) (avs := []) (st := []) (bc1 := 0) (bs1 := 0) (bc2 := bc) (bs2 := bs) fx_X10_countClauses dX12_played_17 wd_954 wd_955 wd_956 rfl h2 rfl (Nat.le_of_ble_eq_true rfl) (Nat.le_of_ble_eq_true rfl) (by omega) (by omega) (ls1 := [some (vR (some ar2))]) rfl k
theorem BX12_played_20 {d bc bs : Nat} {h : aH} {n : Nat} {Q : aQ} {r0 r2 : Option Nat} {x1 s0 : Int} {l3 l4 : Option aV} (k : Rn d bc bs mX12_played 24 [some (vR r0), some (vI x1), some (vR r2), some (vI s0), some (vI 0)] [] h n Q) : Rn d (bc) (bs) mX12_played 20 [some (vR r0), some (vI x1), some (vR r2), l3, l4] [vI s0] h n Q := by
  refine Rn_istore_n dX12_played_20 rfl (Nat.le_of_ble_eq_true rfl) rfl rfl ?_
  refine Rn_iconst dX12_played_21 rfl ?_
  refine Rn_istore dX12_played_22 (Nat.le_of_ble_eq_true rfl) rfl rfl ?_
  exact k
theorem BX12_played_24 {d bc bs : Nat} {h : aH} {n : Nat} {Q : aQ} {r0 r2 : Option Nat} {x1 x3 x4 : Int} (kt : x3 ≤ x4 → Rn d bc bs mX12_played 49 [some (vR r0), some (vI x1), some (vR r2), some (vI x3), some (vI x4)] [] h n Q) (kf : x4 < x3 → Rn d bc bs mX12_played 30 [some (vR r0), some (vI x1), some (vR r2), some (vI x3), some (vI x4)] [] h n Q) : Rn d (bc) (bs) mX12_played 24 [some (vR r0), some (vI x1), some (vR r2), some (vI x3), some (vI x4)] [] h n Q := by
  refine Rn_iload dX12_played_24 rfl ?_
  refine Rn_iload_n dX12_played_26 rfl rfl ?_
  refine Rn_icmpge (tgt := 49) dX12_played_27 rfl ?_ ?_
  · exact kt
  · exact kf
theorem BX12_played_30 {d bc bs : Nat} {h : aH} {n : Nat} {Q : aQ} {ar0 : Nat} {x1 x3 x4 : Int} {r2 : Option Nat} {f1 : List aV} (h2 : h ar0 = cO 12 f1) (k : Rn d 0 0 mX12_playClause 0 [some (vR (some ar0)), some (vR r2), some (vI x4), none, none, none, none] [] h n (fun v h1 n1 => Rn (d + 1) bc bs mX12_played 37 [some (vR (some ar0)), some (vI x1), some (vR r2), some (vI x3), some (vI x4)] (v.toList ++ []) h1 n1 Q)) : Rn (d + 1) (bc) (bs) mX12_played 30 [some (vR (some ar0)), some (vI x1), some (vR r2), some (vI x3), some (vI x4)] [] h n Q := by
  refine Rn_aload_n dX12_played_30 rfl rfl rfl ?_
  refine Rn_aload_n dX12_played_31 rfl rfl rfl ?_
  refine Rn_iload dX12_played_32 rfl ?_
  exact Rn_callV (ci := 12) (avs := [vR r2, vI x4]) (st := []) (bc1 := 0) (bs1 := 0) (bc2 := bc) (bs2 := bs) fx_X12_playClause dX12_played_34 wd_958 wd_960 wd_36 rfl h2 rfl (Nat.le_of_ble_eq_true rfl) (Nat.le_of_ble_eq_true rfl) (by omega) (by omega) (ls1 := [some (vR (some ar0)), some (vR r2), some (vI x4), none, none, none, none]) rfl k
theorem BX12_played_37 {d bc bs : Nat} {h : aH} {n : Nat} {Q : aQ} {r0 r2 : Option Nat} {x1 x3 x4 s0 : Int} (kt : s0 ≠ 0 → Rn d bc bs mX12_played 43 [some (vR r0), some (vI x1), some (vR r2), some (vI x3), some (vI x4)] [] h n Q) (kf : s0 = 0 → Rn d bc bs mX12_played 40 [some (vR r0), some (vI x1), some (vR r2), some (vI x3), some (vI x4)] [] h n Q) : Rn d (bc) (bs) mX12_played 37 [some (vR r0), some (vI x1), some (vR r2), some (vI x3), some (vI x4)] [vI s0] h n Q := by
  refine Rn_ifne (tgt := 43) dX12_played_37 rfl ?_ ?_
  · exact kt
  · exact kf
theorem BX12_played_40 {d bc bs : Nat} {h : aH} {n : Nat} {Q : aQ} {r0 r2 : Option Nat} {x1 x3 x4 : Int} (k : Q (some (vI x4)) h n) : Rn d (bc) (bs) mX12_played 40 [some (vR r0), some (vI x1), some (vR r2), some (vI x3), some (vI x4)] [] h n Q := by
  refine Rn_iload dX12_played_40 rfl ?_
  exact Rn_ireturn rfl dX12_played_42 k
theorem BX12_played_43 {d bc bs : Nat} {h : aH} {n : Nat} {Q : aQ} {r0 r2 : Option Nat} {x1 x3 x4 : Int} (b1 : -2147483648 ≤ x4 + 1 ∧ x4 + 1 < 2147483648) (k : Rn d bc bs mX12_played 24 [some (vR r0), some (vI x1), some (vR r2), some (vI x3), some (vI (x4 + 1))] [] h n Q) : Rn d (bc) (bs) mX12_played 43 [some (vR r0), some (vI x1), some (vR r2), some (vI x3), some (vI x4)] [] h n Q := by
  refine Rn_iinc dX12_played_43 rfl (Nat.le_of_ble_eq_true rfl) rfl rfl rfl ?_
  rw [w32_id b1.1 b1.2]
  refine Rn_goto (tgt := 24) dX12_played_46 rfl ?_
  exact k
theorem BX12_played_49 {d bc bs : Nat} {h : aH} {n : Nat} {Q : aQ} {r0 r2 : Option Nat} {x1 x3 x4 : Int} (k : Q (some (vI (-1))) h n) : Rn d (bc) (bs) mX12_played 49 [some (vR r0), some (vI x1), some (vR r2), some (vI x3), some (vI x4)] [] h n Q := by
  refine Rn_iconst dX12_played_49 rfl ?_
  exact Rn_ireturn rfl dX12_played_50 k
theorem dX12_years_0 : decode cX12_years 0 = .ok (.iload_n 1, 1) := by decide +kernel
theorem dX12_years_1 : decode cX12_years 1 = .ok (.iconst 0, 1) := by decide +kernel
theorem dX12_years_2 : decode cX12_years 2 = .ok (.sipush 9999, 3) := by decide +kernel
theorem dX12_years_5 : decode cX12_years 5 = .ok (.invokestatic 93, 3) := by decide +kernel
theorem dX12_years_8 : decode cX12_years 8 = .ok (.ifCond .eq 13, 3) := by decide +kernel
theorem dX12_years_11 : decode cX12_years 11 = .ok (.iload_n 2, 1) := by decide +kernel
theorem dX12_years_12 : decode cX12_years 12 = .ok (.iconst 1, 1) := by decide +kernel
theorem dX12_years_13 : decode cX12_years 13 = .ok (.bipush 40, 2) := by decide +kernel
theorem dX12_years_15 : decode cX12_years 15 = .ok (.invokestatic 93, 3) := by decide +kernel
theorem dX12_years_18 : decode cX12_years 18 = .ok (.ifCond .ne 5, 3) := by decide +kernel
theorem dX12_years_21 : decode cX12_years 21 = .ok (.iconst (-1), 1) := by decide +kernel
theorem dX12_years_22 : decode cX12_years 22 = .ok (.ireturn, 1) := by decide +kernel
theorem dX12_years_23 : decode cX12_years 23 = .ok (.aload_n 0, 1) := by decide +kernel
theorem dX12_years_24 : decode cX12_years 24 = .ok (.getfield 10, 3) := by decide +kernel
theorem dX12_years_27 : decode cX12_years 27 = .ok (.getfield 152, 3) := by decide +kernel
theorem dX12_years_30 : decode cX12_years 30 = .ok (.aload_n 0, 1) := by decide +kernel
theorem dX12_years_31 : decode cX12_years 31 = .ok (.getfield 10, 3) := by decide +kernel
theorem dX12_years_34 : decode cX12_years 34 = .ok (.getfield 128, 3) := by decide +kernel
theorem dX12_years_37 : decode cX12_years 37 = .ok (.invokevirtual 156, 3) := by decide +kernel
theorem dX12_years_40 : decode cX12_years 40 = .ok (.aload_n 0, 1) := by decide +kernel
theorem dX12_years_41 : decode cX12_years 41 = .ok (.getfield 10, 3) := by decide +kernel
theorem dX12_years_44 : decode cX12_years 44 = .ok (.getfield 128, 3) := by decide +kernel
theorem dX12_years_47 : decode cX12_years 47 = .ok (.iload_n 1, 1) := by decide +kernel
theorem dX12_years_48 : decode cX12_years 48 = .ok (.iconst 2, 1) := by decide +kernel
theorem dX12_years_49 : decode cX12_years 49 = .ok (.imul, 1) := by decide +kernel
theorem dX12_years_50 : decode cX12_years 50 = .ok (.sipush 227, 3) := by decide +kernel
theorem dX12_years_53 : decode cX12_years 53 = .ok (.iadd, 1) := by decide +kernel
theorem dX12_years_54 : decode cX12_years 54 = .ok (.putfield 162, 3) := by decide +kernel
theorem dX12_years_57 : decode cX12_years 57 = .ok (.iconst 0, 1) := by decide +kernel
theorem dX12_years_58 : decode cX12_years 58 = .ok (.istore_n 3, 1) := by decide +kernel
theorem dX12_years_59 : decode cX12_years 59 = .ok (.iload_n 3, 1) := by decide +kernel
theorem dX12_years_60 : decode cX12_years 60 = .ok (.iload_n 2, 1) := by decide +kernel
theorem dX12_years_61 : decode cX12_years 61 = .ok (.if_icmp .ge 23, 3) := by decide +kernel
theorem dX12_years_64 : decode cX12_years 64 = .ok (.aload_n 0, 1) := by decide +kernel
theorem dX12_years_65 : decode cX12_years 65 = .ok (.aload_n 0, 1) := by decide +kernel
theorem dX12_years_66 : decode cX12_years 66 = .ok (.getfield 10, 3) := by decide +kernel
theorem dX12_years_69 : decode cX12_years 69 = .ok (.getfield 128, 3) := by decide +kernel
theorem dX12_years_72 : decode cX12_years 72 = .ok (.invokevirtual 165, 3) := by decide +kernel
theorem dX12_years_75 : decode cX12_years 75 = .ok (.invokevirtual 168, 3) := by decide +kernel
theorem dX12_years_78 : decode cX12_years 78 = .ok (.iinc 3 1, 3) := by decide +kernel
theorem dX12_years_81 : decode cX12_years 81 = .ok (.goto (-22), 3) := by decide +kernel
theorem dX12_years_84 : decode cX12_years 84 = .ok (.aload_n 0, 1) := by decide +kernel
theorem dX12_years_85 : decode cX12_years 85 = .ok (.getfield 10, 3) := by decide +kernel
theorem dX12_years_88 : decode cX12_years 88 = .ok (.getfield 128, 3) := by decide +kernel
theorem dX12_years_91 : decode cX12_years 91 = .ok (.getfield 131, 3) := by decide +kernel
theorem dX12_years_94 : decode cX12_years 94 = .ok (.ireturn, 1) := by decide +kernel
theorem BX12_years_0 {d bc bs : Nat} {h : aH} {n : Nat} {Q : aQ} {r0 : Option Nat} {x1 x2 : Int} {l3 : Option aV} (k : Rn d 0 0 mX12_within 0 [some (vI x1), some (vI 0), some (vI 9999)] [] h n (fun v h1 n1 => Rn (d + 1) bc bs mX12_years 8 [some (vR r0), some (vI x1), some (vI x2), l3] (v.toList ++ []) h1 n1 Q)) : Rn (d + 1) (bc) (bs) mX12_years 0 [some (vR r0), some (vI x1), some (vI x2), l3] [] h n Q := by
  refine Rn_iload_n dX12_years_0 rfl rfl ?_
  refine Rn_iconst dX12_years_1 rfl ?_
  refine Rn_sipush dX12_years_2 rfl ?_
  exact Rn_callS (avs := [vI x1, vI 0, vI 9999]) (st := []) (bc1 := 0) (bs1 := 0) (bc2 := bc) (bs2 := bs) fx_X12_within dX12_years_5 (Or.inl wd_502) wd_503 rfl (Nat.le_of_ble_eq_true rfl) (Nat.le_of_ble_eq_true rfl) (by omega) (by omega) (ls1 := [some (vI x1), some (vI 0), some (vI 9999)]) rfl k
theorem BX12_years_8 {d bc bs : Nat} {h : aH} {n : Nat} {Q : aQ} {r0 : Option Nat} {x1 x2 s0 : Int} {l3 : Option aV} (kt : s0 = 0 → Rn d bc bs mX12_years 21 [some (vR r0), some (vI x1), some (vI x2), l3] [] h n Q) (kf : s0 ≠ 0 → Rn d bc bs mX12_years 11 [some (vR r0), some (vI x1), some (vI x2), l3] [] h n Q) : Rn d (bc) (bs) mX12_years 8 [some (vR r0), some (vI x1), some (vI x2), l3] [vI s0] h n Q := by
  refine Rn_ifeq (tgt := 21) dX12_years_8 rfl ?_ ?_
  · exact kt
  · exact kf
theorem BX12_years_11 {d bc bs : Nat} {h : aH} {n : Nat} {Q : aQ} {r0 : Option Nat} {x1 x2 : Int} {l3 : Option aV} (k : Rn d 0 0 mX12_within 0 [some (vI x2), some (vI 1), some (vI 40)] [] h n (fun v h1 n1 => Rn (d + 1) bc bs mX12_years 18 [some (vR r0), some (vI x1), some (vI x2), l3] (v.toList ++ []) h1 n1 Q)) : Rn (d + 1) (bc) (bs) mX12_years 11 [some (vR r0), some (vI x1), some (vI x2), l3] [] h n Q := by
  refine Rn_iload_n dX12_years_11 rfl rfl ?_
  refine Rn_iconst dX12_years_12 rfl ?_
  refine Rn_bipush dX12_years_13 rfl ?_
  exact Rn_callS (avs := [vI x2, vI 1, vI 40]) (st := []) (bc1 := 0) (bs1 := 0) (bc2 := bc) (bs2 := bs) fx_X12_within dX12_years_15 (Or.inl wd_502) wd_503 rfl (Nat.le_of_ble_eq_true rfl) (Nat.le_of_ble_eq_true rfl) (by omega) (by omega) (ls1 := [some (vI x2), some (vI 1), some (vI 40)]) rfl k
theorem BX12_years_18 {d bc bs : Nat} {h : aH} {n : Nat} {Q : aQ} {r0 : Option Nat} {x1 x2 s0 : Int} {l3 : Option aV} (kt : s0 ≠ 0 → Rn d bc bs mX12_years 23 [some (vR r0), some (vI x1), some (vI x2), l3] [] h n Q) (kf : s0 = 0 → Rn d bc bs mX12_years 21 [some (vR r0), some (vI x1), some (vI x2), l3] [] h n Q) : Rn d (bc) (bs) mX12_years 18 [some (vR r0), some (vI x1), some (vI x2), l3] [vI s0] h n Q := by
  refine Rn_ifne (tgt := 23) dX12_years_18 rfl ?_ ?_
  · exact kt
  · exact kf
theorem BX12_years_21 {d bc bs : Nat} {h : aH} {n : Nat} {Q : aQ} {r0 : Option Nat} {x1 x2 : Int} {l3 : Option aV} (k : Q (some (vI (-1))) h n) : Rn d (bc) (bs) mX12_years 21 [some (vR r0), some (vI x1), some (vI x2), l3] [] h n Q := by
  refine Rn_iconst dX12_years_21 rfl ?_
  exact Rn_ireturn rfl dX12_years_22 k
theorem BX12_years_23 {d bc bs : Nat} {h : aH} {n : Nat} {Q : aQ} {ar0 at3 at7 : Nat} {x1 x2 : Int} {l3 : Option aV} {f1 f5 f11 : List aV} {t9 : Option Nat} (h2 : h ar0 = cO 12 f1) (g4 : f1[0]? = some (vR (some at3))) (h6 : h at3 = cO 11 f5) (g8 : f5[2]? = some (vR (some at7))) (g10 : f5[1]? = some (vR t9)) (h12 : h at7 = cO 8 f11) (k : Rn d 0 0 mX8_keep 0 [some (vR (some at7)), some (vR t9), none] [] h n (fun v h1 n1 => Rn (d + 1) bc bs mX12_years 40 [some (vR (some ar0)), some (vI x1), some (vI x2), l3] (v.toList ++ []) h1 n1 Q)) : Rn (d + 1) (bc) (bs) mX12_years 23 [some (vR (some ar0)), some (vI x1), some (vI x2), l3] [] h n Q := by
  refine Rn_aload_n dX12_years_23 rfl rfl rfl ?_
  refine Rn_getfield (ci := 12) (k := 0) dX12_years_24 rfl in_12 (Nat.le_of_ble_eq_true rfl) wd_460 rfl h2 g4 ?_
  refine Rn_getfield (ci := 11) (k := 2) dX12_years_27 rfl in_11 (Nat.le_of_ble_eq_true rfl) wd_297 rfl h6 g8 ?_
  refine Rn_aload_n dX12_years_30 rfl rfl rfl ?_
  refine Rn_getfield (ci := 12) (k := 0) dX12_years_31 rfl in_12 (Nat.le_of_ble_eq_true rfl) wd_460 rfl h2 g4 ?_
  refine Rn_getfield (ci := 11) (k := 1) dX12_years_34 rfl in_11 (Nat.le_of_ble_eq_true rfl) wd_295 rfl h6 g10 ?_
  exact Rn_callV (ci := 8) (avs := [vR t9]) (st := []) (bc1 := 0) (bs1 := 0) (bc2 := bc) (bs2 := bs) fx_X8_keep dX12_years_37 wd_785 wd_786 wd_787 rfl h12 rfl (Nat.le_of_ble_eq_true rfl) (Nat.le_of_ble_eq_true rfl) (by omega) (by omega) (ls1 := [some (vR (some at7)), some (vR t9), none]) rfl k
theorem BX12_years_40 {d bc bs : Nat} {h : aH} {n : Nat} {Q : aQ} {ar0 at3 at7 : Nat} {x1 x2 : Int} {l3 : Option aV} {f1 f5 f11 : List aV} (h2 : h ar0 = cO 12 f1) (g4 : f1[0]? = some (vR (some at3))) (h6 : h at3 = cO 11 f5) (g8 : f5[1]? = some (vR (some at7))) (b9 : -2147483648 ≤ x1 * 2 ∧ x1 * 2 < 2147483648) (b10 : -2147483648 ≤ (x1 * 2) + 227 ∧ (x1 * 2) + 227 < 2147483648) (h12 : h at7 = cO 6 f11) (m13 : 4 < f11.length) (k : Rn d bc bs mX12_years 57 [some (vR (some ar0)), some (vI x1), some (vI x2), l3] [] (up h at7 (cO 6 (f11.set 4 (vI ((x1 * 2) + 227))))) n Q) : Rn d (bc) (bs) mX12_years 40 [some (vR (some ar0)), some (vI x1), some (vI x2), l3] [] h n Q := by
  refine Rn_aload_n dX12_years_40 rfl rfl rfl ?_
  refine Rn_getfield (ci := 12) (k := 0) dX12_years_41 rfl in_12 (Nat.le_of_ble_eq_true rfl) wd_460 rfl h2 g4 ?_
  refine Rn_getfield (ci := 11) (k := 1) dX12_years_44 rfl in_11 (Nat.le_of_ble_eq_true rfl) wd_295 rfl h6 g8 ?_
  refine Rn_iload_n dX12_years_47 rfl rfl ?_
  refine Rn_iconst dX12_years_48 rfl ?_
  refine Rn_imul dX12_years_49 ?_
  rw [w32_id b9.1 b9.2]
  refine Rn_sipush dX12_years_50 rfl ?_
  refine Rn_iadd dX12_years_53 ?_
  rw [w32_id b10.1 b10.2]
  refine Rn_putfield (ci := 6) (k := 4) dX12_years_54 rfl in_6 tyX6_ok nmX6 (Nat.le_of_ble_eq_true rfl) wd_212 rfl (Or.inl rfl) trivial m13 h12 ?_
  exact k
theorem BX12_years_57 {d bc bs : Nat} {h : aH} {n : Nat} {Q : aQ} {r0 : Option Nat} {x1 x2 : Int} {l3 : Option aV} (k : Rn d bc bs mX12_years 59 [some (vR r0), some (vI x1), some (vI x2), some (vI 0)] [] h n Q) : Rn d (bc) (bs) mX12_years 57 [some (vR r0), some (vI x1), some (vI x2), l3] [] h n Q := by
  refine Rn_iconst dX12_years_57 rfl ?_
  refine Rn_istore_n dX12_years_58 rfl (Nat.le_of_ble_eq_true rfl) rfl rfl ?_
  exact k
theorem BX12_years_59 {d bc bs : Nat} {h : aH} {n : Nat} {Q : aQ} {r0 : Option Nat} {x1 x2 x3 : Int} (kt : x2 ≤ x3 → Rn d bc bs mX12_years 84 [some (vR r0), some (vI x1), some (vI x2), some (vI x3)] [] h n Q) (kf : x3 < x2 → Rn d bc bs mX12_years 64 [some (vR r0), some (vI x1), some (vI x2), some (vI x3)] [] h n Q) : Rn d (bc) (bs) mX12_years 59 [some (vR r0), some (vI x1), some (vI x2), some (vI x3)] [] h n Q := by
  refine Rn_iload_n dX12_years_59 rfl rfl ?_
  refine Rn_iload_n dX12_years_60 rfl rfl ?_
  refine Rn_icmpge (tgt := 84) dX12_years_61 rfl ?_ ?_
  · exact kt
  · exact kf
theorem BX12_years_64 {d bc bs : Nat} {h : aH} {n : Nat} {Q : aQ} {ar0 at3 at7 : Nat} {x1 x2 x3 : Int} {f1 f5 f9 : List aV} (h2 : h ar0 = cO 12 f1) (g4 : f1[0]? = some (vR (some at3))) (h6 : h at3 = cO 11 f5) (g8 : f5[1]? = some (vR (some at7))) (h10 : h at7 = cO 6 f9) (k : Rn d 0 0 mX6_draw 0 [some (vR (some at7)), none] [] h n (fun v h1 n1 => Rn (d + 1) bc bs mX12_years 75 [some (vR (some ar0)), some (vI x1), some (vI x2), some (vI x3)] (v.toList ++ [vR (some ar0)]) h1 n1 Q)) : Rn (d + 1) (bc) (bs) mX12_years 64 [some (vR (some ar0)), some (vI x1), some (vI x2), some (vI x3)] [] h n Q := by
  refine Rn_aload_n dX12_years_64 rfl rfl rfl ?_
  refine Rn_aload_n dX12_years_65 rfl rfl rfl ?_
  refine Rn_getfield (ci := 12) (k := 0) dX12_years_66 rfl in_12 (Nat.le_of_ble_eq_true rfl) wd_460 rfl h2 g4 ?_
  refine Rn_getfield (ci := 11) (k := 1) dX12_years_69 rfl in_11 (Nat.le_of_ble_eq_true rfl) wd_295 rfl h6 g8 ?_
  exact Rn_callV (ci := 6) (avs := []) (st := [vR (some ar0)]) (bc1 := 0) (bs1 := 0) (bc2 := bc) (bs2 := bs) fx_X6_draw dX12_years_72 wd_973 wd_942 wd_943 rfl h10 rfl (Nat.le_of_ble_eq_true rfl) (Nat.le_of_ble_eq_true rfl) (by omega) (by omega) (ls1 := [some (vR (some at7)), none]) rfl k
theorem BX12_years_75 {d bc bs : Nat} {h : aH} {n : Nat} {Q : aQ} {r0 : Option Nat} {x1 x2 x3 s1 : Int} {aq0 : Nat} {f1 : List aV} (h2 : h aq0 = cO 12 f1) (k : Rn d 0 0 mX12_liveYear 0 [some (vR (some aq0)), some (vI s1), none, none, none] [] h n (fun v h1 n1 => Rn (d + 1) bc bs mX12_years 78 [some (vR r0), some (vI x1), some (vI x2), some (vI x3)] (v.toList ++ []) h1 n1 Q)) : Rn (d + 1) (bc) (bs) mX12_years 75 [some (vR r0), some (vI x1), some (vI x2), some (vI x3)] [vI s1, vR (some aq0)] h n Q := by
  exact Rn_callV (ci := 12) (avs := [vI s1]) (st := []) (bc1 := 0) (bs1 := 0) (bc2 := bc) (bs2 := bs) fx_X12_liveYear dX12_years_75 wd_974 wd_976 wd_37 rfl h2 rfl (Nat.le_of_ble_eq_true rfl) (Nat.le_of_ble_eq_true rfl) (by omega) (by omega) (ls1 := [some (vR (some aq0)), some (vI s1), none, none, none]) rfl k
theorem BX12_years_78 {d bc bs : Nat} {h : aH} {n : Nat} {Q : aQ} {r0 : Option Nat} {x1 x2 x3 : Int} (b1 : -2147483648 ≤ x3 + 1 ∧ x3 + 1 < 2147483648) (k : Rn d bc bs mX12_years 59 [some (vR r0), some (vI x1), some (vI x2), some (vI (x3 + 1))] [] h n Q) : Rn d (bc) (bs) mX12_years 78 [some (vR r0), some (vI x1), some (vI x2), some (vI x3)] [] h n Q := by
  refine Rn_iinc dX12_years_78 rfl (Nat.le_of_ble_eq_true rfl) rfl rfl rfl ?_
  rw [w32_id b1.1 b1.2]
  refine Rn_goto (tgt := 59) dX12_years_81 rfl ?_
  exact k
theorem BX12_years_84 {d bc bs : Nat} {h : aH} {n : Nat} {Q : aQ} {ar0 at3 at7 : Nat} {x1 x2 x3 v11 : Int} {f1 f5 f9 : List aV} (h2 : h ar0 = cO 12 f1) (g4 : f1[0]? = some (vR (some at3))) (h6 : h at3 = cO 11 f5) (g8 : f5[1]? = some (vR (some at7))) (h10 : h at7 = cO 6 f9) (g12 : f9[3]? = some (vI v11)) (k : Q (some (vI v11)) h n) : Rn d (bc) (bs) mX12_years 84 [some (vR (some ar0)), some (vI x1), some (vI x2), some (vI x3)] [] h n Q := by
  refine Rn_aload_n dX12_years_84 rfl rfl rfl ?_
  refine Rn_getfield (ci := 12) (k := 0) dX12_years_85 rfl in_12 (Nat.le_of_ble_eq_true rfl) wd_460 rfl h2 g4 ?_
  refine Rn_getfield (ci := 11) (k := 1) dX12_years_88 rfl in_11 (Nat.le_of_ble_eq_true rfl) wd_295 rfl h6 g8 ?_
  refine Rn_getfield (ci := 6) (k := 3) dX12_years_91 rfl in_6 (Nat.le_of_ble_eq_true rfl) wd_210 rfl h10 g12 ?_
  exact Rn_ireturn rfl dX12_years_94 k
theorem dX12_undo_0 : decode cX12_undo 0 = .ok (.aload_n 0, 1) := by decide +kernel
theorem dX12_undo_1 : decode cX12_undo 1 = .ok (.getfield 10, 3) := by decide +kernel
theorem dX12_undo_4 : decode cX12_undo 4 = .ok (.getfield 152, 3) := by decide +kernel
theorem dX12_undo_7 : decode cX12_undo 7 = .ok (.aload_n 0, 1) := by decide +kernel
theorem dX12_undo_8 : decode cX12_undo 8 = .ok (.getfield 10, 3) := by decide +kernel
theorem dX12_undo_11 : decode cX12_undo 11 = .ok (.getfield 128, 3) := by decide +kernel
theorem dX12_undo_14 : decode cX12_undo 14 = .ok (.invokevirtual 171, 3) := by decide +kernel
theorem dX12_undo_17 : decode cX12_undo 17 = .ok (.ireturn, 1) := by decide +kernel
theorem BX12_undo_0 {d bc bs : Nat} {h : aH} {n : Nat} {Q : aQ} {ar0 at3 at7 : Nat} {f1 f5 f11 : List aV} {t9 : Option Nat} (h2 : h ar0 = cO 12 f1) (g4 : f1[0]? = some (vR (some at3))) (h6 : h at3 = cO 11 f5) (g8 : f5[2]? = some (vR (some at7))) (g10 : f5[1]? = some (vR t9)) (h12 : h at7 = cO 8 f11) (k : Rn d 0 0 mX8_takeBack 0 [some (vR (some at7)), some (vR t9), none] [] h n (fun v h1 n1 => Rn (d + 1) bc bs mX12_undo 17 [some (vR (some ar0))] (v.toList ++ []) h1 n1 Q)) : Rn (d + 1) (bc) (bs) mX12_undo 0 [some (vR (some ar0))] [] h n Q := by
  refine Rn_aload_n dX12_undo_0 rfl rfl rfl ?_
  refine Rn_getfield (ci := 12) (k := 0) dX12_undo_1 rfl in_12 (Nat.le_of_ble_eq_true rfl) wd_460 rfl h2 g4 ?_
  refine Rn_getfield (ci := 11) (k := 2) dX12_undo_4 rfl in_11 (Nat.le_of_ble_eq_true rfl) wd_297 rfl h6 g8 ?_
  refine Rn_aload_n dX12_undo_7 rfl rfl rfl ?_
  refine Rn_getfield (ci := 12) (k := 0) dX12_undo_8 rfl in_12 (Nat.le_of_ble_eq_true rfl) wd_460 rfl h2 g4 ?_
  refine Rn_getfield (ci := 11) (k := 1) dX12_undo_11 rfl in_11 (Nat.le_of_ble_eq_true rfl) wd_295 rfl h6 g10 ?_
  exact Rn_callV (ci := 8) (avs := [vR t9]) (st := []) (bc1 := 0) (bs1 := 0) (bc2 := bc) (bs2 := bs) fx_X8_takeBack dX12_undo_14 wd_982 wd_983 wd_984 rfl h12 rfl (Nat.le_of_ble_eq_true rfl) (Nat.le_of_ble_eq_true rfl) (by omega) (by omega) (ls1 := [some (vR (some at7)), some (vR t9), none]) rfl k
theorem BX12_undo_17 {d bc bs : Nat} {h : aH} {n : Nat} {Q : aQ} {r0 : Option Nat} {s0 : Int} (k : Q (some (vI s0)) h n) : Rn d (bc) (bs) mX12_undo 17 [some (vR r0)] [vI s0] h n Q := by
  exact Rn_ireturn rfl dX12_undo_17 k
theorem dX12_tossBottle_0 : decode cX12_tossBottle 0 = .ok (.aload_n 0, 1) := by decide +kernel
theorem dX12_tossBottle_1 : decode cX12_tossBottle 1 = .ok (.getfield 10, 3) := by decide +kernel
theorem dX12_tossBottle_4 : decode cX12_tossBottle 4 = .ok (.getfield 68, 3) := by decide +kernel
theorem dX12_tossBottle_7 : decode cX12_tossBottle 7 = .ok (.iload_n 1, 1) := by decide +kernel
theorem dX12_tossBottle_8 : decode cX12_tossBottle 8 = .ok (.invokevirtual 175, 3) := by decide +kernel
theorem dX12_tossBottle_11 : decode cX12_tossBottle 11 = .ok (.ifCond .eq 51, 3) := by decide +kernel
theorem dX12_tossBottle_14 : decode cX12_tossBottle 14 = .ok (.aload_n 0, 1) := by decide +kernel
theorem dX12_tossBottle_15 : decode cX12_tossBottle 15 = .ok (.getfield 10, 3) := by decide +kernel
theorem dX12_tossBottle_18 : decode cX12_tossBottle 18 = .ok (.getfield 68, 3) := by decide +kernel
theorem dX12_tossBottle_21 : decode cX12_tossBottle 21 = .ok (.iload_n 2, 1) := by decide +kernel
theorem dX12_tossBottle_22 : decode cX12_tossBottle 22 = .ok (.invokevirtual 175, 3) := by decide +kernel
theorem dX12_tossBottle_25 : decode cX12_tossBottle 25 = .ok (.ifCond .eq 37, 3) := by decide +kernel
theorem dX12_tossBottle_28 : decode cX12_tossBottle 28 = .ok (.iload_n 1, 1) := by decide +kernel
theorem dX12_tossBottle_29 : decode cX12_tossBottle 29 = .ok (.iload_n 2, 1) := by decide +kernel
theorem dX12_tossBottle_30 : decode cX12_tossBottle 30 = .ok (.if_icmp .eq 32, 3) := by decide +kernel
theorem dX12_tossBottle_33 : decode cX12_tossBottle 33 = .ok (.iload_n 3, 1) := by decide +kernel
theorem dX12_tossBottle_34 : decode cX12_tossBottle 34 = .ok (.iconst 1, 1) := by decide +kernel
theorem dX12_tossBottle_35 : decode cX12_tossBottle 35 = .ok (.bipush 99, 2) := by decide +kernel
theorem dX12_tossBottle_37 : decode cX12_tossBottle 37 = .ok (.invokestatic 93, 3) := by decide +kernel
theorem dX12_tossBottle_40 : decode cX12_tossBottle 40 = .ok (.ifCond .eq 22, 3) := by decide +kernel
theorem dX12_tossBottle_43 : decode cX12_tossBottle 43 = .ok (.aload_n 0, 1) := by decide +kernel
theorem dX12_tossBottle_44 : decode cX12_tossBottle 44 = .ok (.getfield 10, 3) := by decide +kernel
theorem dX12_tossBottle_47 : decode cX12_tossBottle 47 = .ok (.getfield 128, 3) := by decide +kernel
theorem dX12_tossBottle_50 : decode cX12_tossBottle 50 = .ok (.getfield 178, 3) := by decide +kernel
theorem dX12_tossBottle_53 : decode cX12_tossBottle 53 = .ok (.bipush 12, 2) := by decide +kernel
theorem dX12_tossBottle_55 : decode cX12_tossBottle 55 = .ok (.if_icmp .ge 7, 3) := by decide +kernel
theorem dX12_tossBottle_58 : decode cX12_tossBottle 58 = .ok (.iconst 1, 1) := by decide +kernel
theorem dX12_tossBottle_59 : decode cX12_tossBottle 59 = .ok (.goto 4, 3) := by decide +kernel
theorem dX12_tossBottle_62 : decode cX12_tossBottle 62 = .ok (.iconst 0, 1) := by decide +kernel
theorem dX12_tossBottle_63 : decode cX12_tossBottle 63 = .ok (.istore 5, 2) := by decide +kernel
theorem dX12_tossBottle_65 : decode cX12_tossBottle 65 = .ok (.iload 5, 2) := by decide +kernel
theorem dX12_tossBottle_67 : decode cX12_tossBottle 67 = .ok (.ifCond .ne 5, 3) := by decide +kernel
theorem dX12_tossBottle_70 : decode cX12_tossBottle 70 = .ok (.iconst (-1), 1) := by decide +kernel
theorem dX12_tossBottle_71 : decode cX12_tossBottle 71 = .ok (.ireturn, 1) := by decide +kernel
theorem dX12_tossBottle_72 : decode cX12_tossBottle 72 = .ok (.iload 4, 2) := by decide +kernel
theorem dX12_tossBottle_74 : decode cX12_tossBottle 74 = .ok (.ifCond .eq 20, 3) := by decide +kernel
theorem dX12_tossBottle_77 : decode cX12_tossBottle 77 = .ok (.aload_n 0, 1) := by decide +kernel
theorem dX12_tossBottle_78 : decode cX12_tossBottle 78 = .ok (.getfield 10, 3) := by decide +kernel
theorem dX12_tossBottle_81 : decode cX12_tossBottle 81 = .ok (.getfield 152, 3) := by decide +kernel
theorem dX12_tossBottle_84 : decode cX12_tossBottle 84 = .ok (.aload_n 0, 1) := by decide +kernel
theorem dX12_tossBottle_85 : decode cX12_tossBottle 85 = .ok (.getfield 10, 3) := by decide +kernel
theorem dX12_tossBottle_88 : decode cX12_tossBottle 88 = .ok (.getfield 128, 3) := by decide +kernel
theorem dX12_tossBottle_91 : decode cX12_tossBottle 91 = .ok (.invokevirtual 156, 3) := by decide +kernel
theorem dX12_tossBottle_94 : decode cX12_tossBottle 94 = .ok (.aload_n 0, 1) := by decide +kernel
theorem dX12_tossBottle_95 : decode cX12_tossBottle 95 = .ok (.getfield 10, 3) := by decide +kernel
theorem dX12_tossBottle_98 : decode cX12_tossBottle 98 = .ok (.getfield 128, 3) := by decide +kernel
theorem dX12_tossBottle_101 : decode cX12_tossBottle 101 = .ok (.iload_n 1, 1) := by decide +kernel
theorem dX12_tossBottle_102 : decode cX12_tossBottle 102 = .ok (.iload_n 2, 1) := by decide +kernel
theorem dX12_tossBottle_103 : decode cX12_tossBottle 103 = .ok (.aload_n 0, 1) := by decide +kernel
theorem dX12_tossBottle_104 : decode cX12_tossBottle 104 = .ok (.getfield 10, 3) := by decide +kernel
theorem dX12_tossBottle_107 : decode cX12_tossBottle 107 = .ok (.getfield 68, 3) := by decide +kernel
theorem dX12_tossBottle_110 : decode cX12_tossBottle 110 = .ok (.iload_n 1, 1) := by decide +kernel
theorem dX12_tossBottle_111 : decode cX12_tossBottle 111 = .ok (.invokevirtual 181, 3) := by decide +kernel
theorem dX12_tossBottle_114 : decode cX12_tossBottle 114 = .ok (.iload_n 3, 1) := by decide +kernel
theorem dX12_tossBottle_115 : decode cX12_tossBottle 115 = .ok (.invokevirtual 184, 3) := by decide +kernel
theorem dX12_tossBottle_118 : decode cX12_tossBottle 118 = .ok (.ireturn, 1) := by decide +kernel
theorem BX12_tossBottle_0 {d bc bs : Nat} {h : aH} {n : Nat} {Q : aQ} {ar0 at3 at7 : Nat} {x1 x2 x3 x4 : Int} {l5 : Option aV} {f1 f5 f9 : List aV} (h2 : h ar0 = cO 12 f1) (g4 : f1[0]? = some (vR (some at3))) (h6 : h at3 = cO 11 f5) (g8 : f5[0]? = some (vR (some at7))) (h10 : h at7 = cO 7 f9) (k : Rn d 0 0 mX7_hasPerson 0 [some (vR (some at7)), some (vI x1)] [] h n (fun v h1 n1 => Rn (d + 1) bc bs mX12_tossBottle 11 [some (vR (some ar0)), some (vI x1), some (vI x2), some (vI x3), some (vI x4), l5] (v.toList ++ []) h1 n1 Q)) : Rn (d + 1) (bc) (bs) mX12_tossBottle 0 [some (vR (some ar0)), some (vI x1), some (vI x2), some (vI x3), some (vI x4), l5] [] h n Q := by
  refine Rn_aload_n dX12_tossBottle_0 rfl rfl rfl ?_
  refine Rn_getfield (ci := 12) (k := 0) dX12_tossBottle_1 rfl in_12 (Nat.le_of_ble_eq_true rfl) wd_460 rfl h2 g4 ?_
  refine Rn_getfield (ci := 11) (k := 0) dX12_tossBottle_4 rfl in_11 (Nat.le_of_ble_eq_true rfl) wd_293 rfl h6 g8 ?_
  refine Rn_iload_n dX12_tossBottle_7 rfl rfl ?_
  exact Rn_callV (ci := 7) (avs := [vI x1]) (st := []) (bc1 := 0) (bs1 := 0) (bc2 := bc) (bs2 := bs) fx_X7_hasPerson dX12_tossBottle_8 wd_781 wd_782 wd_783 rfl h10 rfl (Nat.le_of_ble_eq_true rfl) (Nat.le_of_ble_eq_true rfl) (by omega) (by omega) (ls1 := [some (vR (some at7)), some (vI x1)]) rfl k
theorem BX12_tossBottle_11 {d bc bs : Nat} {h : aH} {n : Nat} {Q : aQ} {r0 : Option Nat} {x1 x2 x3 x4 s0 : Int} {l5 : Option aV} (kt : s0 = 0 → Rn d bc bs mX12_tossBottle 62 [some (vR r0), some (vI x1), some (vI x2), some (vI x3), some (vI x4), l5] [] h n Q) (kf : s0 ≠ 0 → Rn d bc bs mX12_tossBottle 14 [some (vR r0), some (vI x1), some (vI x2), some (vI x3), some (vI x4), l5] [] h n Q) : Rn d (bc) (bs) mX12_tossBottle 11 [some (vR r0), some (vI x1), some (vI x2), some (vI x3), some (vI x4), l5] [vI s0] h n Q := by
  refine Rn_ifeq (tgt := 62) dX12_tossBottle_11 rfl ?_ ?_
  · exact kt
  · exact kf
theorem BX12_tossBottle_14 {d bc bs : Nat} {h : aH} {n : Nat} {Q : aQ} {ar0 at3 at7 : Nat} {x1 x2 x3 x4 : Int} {l5 : Option aV} {f1 f5 f9 : List aV} (h2 : h ar0 = cO 12 f1) (g4 : f1[0]? = some (vR (some at3))) (h6 : h at3 = cO 11 f5) (g8 : f5[0]? = some (vR (some at7))) (h10 : h at7 = cO 7 f9) (k : Rn d 0 0 mX7_hasPerson 0 [some (vR (some at7)), some (vI x2)] [] h n (fun v h1 n1 => Rn (d + 1) bc bs mX12_tossBottle 25 [some (vR (some ar0)), some (vI x1), some (vI x2), some (vI x3), some (vI x4), l5] (v.toList ++ []) h1 n1 Q)) : Rn (d + 1) (bc) (bs) mX12_tossBottle 14 [some (vR (some ar0)), some (vI x1), some (vI x2), some (vI x3), some (vI x4), l5] [] h n Q := by
  refine Rn_aload_n dX12_tossBottle_14 rfl rfl rfl ?_
  refine Rn_getfield (ci := 12) (k := 0) dX12_tossBottle_15 rfl in_12 (Nat.le_of_ble_eq_true rfl) wd_460 rfl h2 g4 ?_
  refine Rn_getfield (ci := 11) (k := 0) dX12_tossBottle_18 rfl in_11 (Nat.le_of_ble_eq_true rfl) wd_293 rfl h6 g8 ?_
  refine Rn_iload_n dX12_tossBottle_21 rfl rfl ?_
  exact Rn_callV (ci := 7) (avs := [vI x2]) (st := []) (bc1 := 0) (bs1 := 0) (bc2 := bc) (bs2 := bs) fx_X7_hasPerson dX12_tossBottle_22 wd_781 wd_782 wd_783 rfl h10 rfl (Nat.le_of_ble_eq_true rfl) (Nat.le_of_ble_eq_true rfl) (by omega) (by omega) (ls1 := [some (vR (some at7)), some (vI x2)]) rfl k
theorem BX12_tossBottle_25 {d bc bs : Nat} {h : aH} {n : Nat} {Q : aQ} {r0 : Option Nat} {x1 x2 x3 x4 s0 : Int} {l5 : Option aV} (kt : s0 = 0 → Rn d bc bs mX12_tossBottle 62 [some (vR r0), some (vI x1), some (vI x2), some (vI x3), some (vI x4), l5] [] h n Q) (kf : s0 ≠ 0 → Rn d bc bs mX12_tossBottle 28 [some (vR r0), some (vI x1), some (vI x2), some (vI x3), some (vI x4), l5] [] h n Q) : Rn d (bc) (bs) mX12_tossBottle 25 [some (vR r0), some (vI x1), some (vI x2), some (vI x3), some (vI x4), l5] [vI s0] h n Q := by
  refine Rn_ifeq (tgt := 62) dX12_tossBottle_25 rfl ?_ ?_
  · exact kt
  · exact kf
theorem BX12_tossBottle_28 {d bc bs : Nat} {h : aH} {n : Nat} {Q : aQ} {r0 : Option Nat} {x1 x2 x3 x4 : Int} {l5 : Option aV} (kt : x1 = x2 → Rn d bc bs mX12_tossBottle 62 [some (vR r0), some (vI x1), some (vI x2), some (vI x3), some (vI x4), l5] [] h n Q) (kf : x1 ≠ x2 → Rn d bc bs mX12_tossBottle 33 [some (vR r0), some (vI x1), some (vI x2), some (vI x3), some (vI x4), l5] [] h n Q) : Rn d (bc) (bs) mX12_tossBottle 28 [some (vR r0), some (vI x1), some (vI x2), some (vI x3), some (vI x4), l5] [] h n Q := by
  refine Rn_iload_n dX12_tossBottle_28 rfl rfl ?_
  refine Rn_iload_n dX12_tossBottle_29 rfl rfl ?_
  refine Rn_icmpeq (tgt := 62) dX12_tossBottle_30 rfl ?_ ?_
  · exact kt
  · exact kf
theorem BX12_tossBottle_33 {d bc bs : Nat} {h : aH} {n : Nat} {Q : aQ} {r0 : Option Nat} {x1 x2 x3 x4 : Int} {l5 : Option aV} (k : Rn d 0 0 mX12_within 0 [some (vI x3), some (vI 1), some (vI 99)] [] h n (fun v h1 n1 => Rn (d + 1) bc bs mX12_tossBottle 40 [some (vR r0), some (vI x1), some (vI x2), some (vI x3), some (vI x4), l5] (v.toList ++ []) h1 n1 Q)) : Rn (d + 1) (bc) (bs) mX12_tossBottle 33 [some (vR r0), some (vI x1), some (vI x2), some (vI x3), some (vI x4), l5] [] h n Q := by
  refine Rn_iload_n dX12_tossBottle_33 rfl rfl ?_
  refine Rn_iconst dX12_tossBottle_34 rfl ?_
  refine Rn_bipush dX12_tossBottle_35 rfl ?_
  exact Rn_callS (avs := [vI x3, vI 1, vI 99]) (st := []) (bc1 := 0) (bs1 := 0) (bc2 := bc) (bs2 := bs) fx_X12_within dX12_tossBottle_37 (Or.inl wd_502) wd_503 rfl (Nat.le_of_ble_eq_true rfl) (Nat.le_of_ble_eq_true rfl) (by omega) (by omega) (ls1 := [some (vI x3), some (vI 1), some (vI 99)]) rfl k
theorem BX12_tossBottle_40 {d bc bs : Nat} {h : aH} {n : Nat} {Q : aQ} {r0 : Option Nat} {x1 x2 x3 x4 s0 : Int} {l5 : Option aV} (kt : s0 = 0 → Rn d bc bs mX12_tossBottle 62 [some (vR r0), some (vI x1), some (vI x2), some (vI x3), some (vI x4), l5] [] h n Q) (kf : s0 ≠ 0 → Rn d bc bs mX12_tossBottle 43 [some (vR r0), some (vI x1), some (vI x2), some (vI x3), some (vI x4), l5] [] h n Q) : Rn d (bc) (bs) mX12_tossBottle 40 [some (vR r0), some (vI x1), some (vI x2), some (vI x3), some (vI x4), l5] [vI s0] h n Q := by
  refine Rn_ifeq (tgt := 62) dX12_tossBottle_40 rfl ?_ ?_
  · exact kt
  · exact kf
theorem BX12_tossBottle_43 {d bc bs : Nat} {h : aH} {n : Nat} {Q : aQ} {ar0 at3 at7 : Nat} {x1 x2 x3 x4 v11 : Int} {l5 : Option aV} {f1 f5 f9 : List aV} (h2 : h ar0 = cO 12 f1) (g4 : f1[0]? = some (vR (some at3))) (h6 : h at3 = cO 11 f5) (g8 : f5[1]? = some (vR (some at7))) (h10 : h at7 = cO 6 f9) (g12 : f9[2]? = some (vI v11)) (kt : 12 ≤ v11 → Rn d bc bs mX12_tossBottle 62 [some (vR (some ar0)), some (vI x1), some (vI x2), some (vI x3), some (vI x4), l5] [] h n Q) (kf : v11 < 12 → Rn d bc bs mX12_tossBottle 58 [some (vR (some ar0)), some (vI x1), some (vI x2), some (vI x3), some (vI x4), l5] [] h n Q) : Rn d (bc) (bs) mX12_tossBottle 43 [some (vR (some ar0)), some (vI x1), some (vI x2), some (vI x3), some (vI x4), l5] [] h n Q := by
  refine Rn_aload_n dX12_tossBottle_43 rfl rfl rfl ?_
  refine Rn_getfield (ci := 12) (k := 0) dX12_tossBottle_44 rfl in_12 (Nat.le_of_ble_eq_true rfl) wd_460 rfl h2 g4 ?_
  refine Rn_getfield (ci := 11) (k := 1) dX12_tossBottle_47 rfl in_11 (Nat.le_of_ble_eq_true rfl) wd_295 rfl h6 g8 ?_
  refine Rn_getfield (ci := 6) (k := 2) dX12_tossBottle_50 rfl in_6 (Nat.le_of_ble_eq_true rfl) wd_207 rfl h10 g12 ?_
  refine Rn_bipush dX12_tossBottle_53 rfl ?_
  refine Rn_icmpge (tgt := 62) dX12_tossBottle_55 rfl ?_ ?_
  · exact kt
  · exact kf
theorem BX12_tossBottle_58 {d bc bs : Nat} {h : aH} {n : Nat} {Q : aQ} {r0 : Option Nat} {x1 x2 x3 x4 : Int} {l5 : Option aV} (kt : (1 : Int) ≠ 0 → Rn d bc bs mX12_tossBottle 72 [some (vR r0), some (vI x1), some (vI x2), some (vI x3), some (vI x4), some (vI 1)] [] h n Q) (kf : (1 : Int) = 0 → Rn d bc bs mX12_tossBottle 70 [some (vR r0), some (vI x1), some (vI x2), some (vI x3), some (vI x4), some (vI 1)] [] h n Q) : Rn d (bc) (bs) mX12_tossBottle 58 [some (vR r0), some (vI x1), some (vI x2), some (vI x3), some (vI x4), l5] [] h n Q := by
  refine Rn_iconst dX12_tossBottle_58 rfl ?_
  refine Rn_goto (tgt := 63) dX12_tossBottle_59 rfl ?_
  refine Rn_istore dX12_tossBottle_63 (Nat.le_of_ble_eq_true rfl) rfl rfl ?_
  refine Rn_iload dX12_tossBottle_65 rfl ?_
  refine Rn_ifne (tgt := 72) dX12_tossBottle_67 rfl ?_ ?_
  · exact kt
  · exact kf
theorem BX12_tossBottle_62 {d bc bs : Nat} {h : aH} {n : Nat} {Q : aQ} {r0 : Option Nat} {x1 x2 x3 x4 : Int} {l5 : Option aV} (kt : (0 : Int) ≠ 0 → Rn d bc bs mX12_tossBottle 72 [some (vR r0), some (vI x1), some (vI x2), some (vI x3), some (vI x4), some (vI 0)] [] h n Q) (kf : (0 : Int) = 0 → Rn d bc bs mX12_tossBottle 70 [some (vR r0), some (vI x1), some (vI x2), some (vI x3), some (vI x4), some (vI 0)] [] h n Q) : Rn d (bc) (bs) mX12_tossBottle 62 [some (vR r0), some (vI x1), some (vI x2), some (vI x3), some (vI x4), l5] [] h n Q := by
  refine Rn_iconst dX12_tossBottle_62 rfl ?_
  refine Rn_istore dX12_tossBottle_63 (Nat.le_of_ble_eq_true rfl) rfl rfl ?_
  refine Rn_iload dX12_tossBottle_65 rfl ?_
  refine Rn_ifne (tgt := 72) dX12_tossBottle_67 rfl ?_ ?_
  · exact kt
  · exact kf
theorem BX12_tossBottle_70 {d bc bs : Nat} {h : aH} {n : Nat} {Q : aQ} {r0 : Option Nat} {x1 x2 x3 x4 x5 : Int} (k : Q (some (vI (-1))) h n) : Rn d (bc) (bs) mX12_tossBottle 70 [some (vR r0), some (vI x1), some (vI x2), some (vI x3), some (vI x4), some (vI x5)] [] h n Q := by
  refine Rn_iconst dX12_tossBottle_70 rfl ?_
  exact Rn_ireturn rfl dX12_tossBottle_71 k
theorem BX12_tossBottle_72 {d bc bs : Nat} {h : aH} {n : Nat} {Q : aQ} {r0 : Option Nat} {x1 x2 x3 x4 x5 : Int} (kt : x4 = 0 → Rn d bc bs mX12_tossBottle 94 [some (vR r0), some (vI x1), some (vI x2), some (vI x3), some (vI x4), some (vI x5)] [] h n Q) (kf : x4 ≠ 0 → Rn d bc bs mX12_tossBottle 77 [some (vR r0), some (vI x1), some (vI x2), some (vI x3), some (vI x4), some (vI x5)] [] h n Q) : Rn d (bc) (bs) mX12_tossBottle 72 [some (vR r0), some (vI x1), some (vI x2), some (vI x3), some (vI x4), some (vI x5)] [] h n Q := by
  refine Rn_iload dX12_tossBottle_72 rfl ?_
  refine Rn_ifeq (tgt := 94) dX12_tossBottle_74 rfl ?_ ?_
  · exact kt
  · exact kf
theorem BX12_tossBottle_77 {d bc bs : Nat} {h : aH} {n : Nat} {Q : aQ} {ar0 at3 at7 : Nat} {x1 x2 x3 x4 x5 : Int} {f1 f5 f11 : List aV} {t9 : Option Nat} (h2 : h ar0 = cO 12 f1) (g4 : f1[0]? = some (vR (some at3))) (h6 : h at3 = cO 11 f5) (g8 : f5[2]? = some (vR (some at7))) (g10 : f5[1]? = some (vR t9)) (h12 : h at7 = cO 8 f11) (k : Rn d 0 0 mX8_keep 0 [some (vR (some at7)), some (vR t9), none] [] h n (fun v h1 n1 => Rn (d + 1) bc bs mX12_tossBottle 94 [some (vR (some ar0)), some (vI x1), some (vI x2), some (vI x3), some (vI x4), some (vI x5)] (v.toList ++ []) h1 n1 Q)) : Rn (d + 1) (bc) (bs) mX12_tossBottle 77 [some (vR (some ar0)), some (vI x1), some (vI x2), some (vI x3), some (vI x4), some (vI x5)] [] h n Q := by
  refine Rn_aload_n dX12_tossBottle_77 rfl rfl rfl ?_
  refine Rn_getfield (ci := 12) (k := 0) dX12_tossBottle_78 rfl in_12 (Nat.le_of_ble_eq_true rfl) wd_460 rfl h2 g4 ?_
  refine Rn_getfield (ci := 11) (k := 2) dX12_tossBottle_81 rfl in_11 (Nat.le_of_ble_eq_true rfl) wd_297 rfl h6 g8 ?_
  refine Rn_aload_n dX12_tossBottle_84 rfl rfl rfl ?_
  refine Rn_getfield (ci := 12) (k := 0) dX12_tossBottle_85 rfl in_12 (Nat.le_of_ble_eq_true rfl) wd_460 rfl h2 g4 ?_
  refine Rn_getfield (ci := 11) (k := 1) dX12_tossBottle_88 rfl in_11 (Nat.le_of_ble_eq_true rfl) wd_295 rfl h6 g10 ?_
  exact Rn_callV (ci := 8) (avs := [vR t9]) (st := []) (bc1 := 0) (bs1 := 0) (bc2 := bc) (bs2 := bs) fx_X8_keep dX12_tossBottle_91 wd_785 wd_786 wd_787 rfl h12 rfl (Nat.le_of_ble_eq_true rfl) (Nat.le_of_ble_eq_true rfl) (by omega) (by omega) (ls1 := [some (vR (some at7)), some (vR t9), none]) rfl k
theorem BX12_tossBottle_94 {d bc bs : Nat} {h : aH} {n : Nat} {Q : aQ} {ar0 at3 at9 : Nat} {x1 x2 x3 x4 x5 : Int} {f1 f5 f11 : List aV} {t7 : Option Nat} (h2 : h ar0 = cO 12 f1) (g4 : f1[0]? = some (vR (some at3))) (h6 : h at3 = cO 11 f5) (g8 : f5[1]? = some (vR t7)) (g10 : f5[0]? = some (vR (some at9))) (h12 : h at9 = cO 7 f11) (k : Rn d 0 0 mX7_placeOf 0 [some (vR (some at9)), some (vI x1)] [] h n (fun v h1 n1 => Rn (d + 1) bc bs mX12_tossBottle 114 [some (vR (some ar0)), some (vI x1), some (vI x2), some (vI x3), some (vI x4), some (vI x5)] (v.toList ++ [vI x2, vI x1, vR t7]) h1 n1 Q)) : Rn (d + 1) (bc) (bs) mX12_tossBottle 94 [some (vR (some ar0)), some (vI x1), some (vI x2), some (vI x3), some (vI x4), some (vI x5)] [] h n Q := by
  refine Rn_aload_n dX12_tossBottle_94 rfl rfl rfl ?_
  refine Rn_getfield (ci := 12) (k := 0) dX12_tossBottle_95 rfl in_12 (Nat.le_of_ble_eq_true rfl) wd_460 rfl h2 g4 ?_
  refine Rn_getfield (ci := 11) (k := 1) dX12_tossBottle_98 rfl in_11 (Nat.le_of_ble_eq_true rfl) wd_295 rfl h6 g8 ?_
  refine Rn_iload_n dX12_tossBottle_101 rfl rfl ?_
  refine Rn_iload_n dX12_tossBottle_102 rfl rfl ?_
  refine Rn_aload_n dX12_tossBottle_103 rfl rfl rfl ?_
  refine Rn_getfield (ci := 12) (k := 0) dX12_tossBottle_104 rfl in_12 (Nat.le_of_ble_eq_true rfl) wd_460 rfl h2 g4 ?_
  refine Rn_getfield (ci := 11) (k := 0) dX12_tossBottle_107 rfl in_11 (Nat.le_of_ble_eq_true rfl) wd_293 rfl h6 g10 ?_
  refine Rn_iload_n dX12_tossBottle_110 rfl rfl ?_
  exact Rn_callV (ci := 7) (avs := [vI x1]) (st := [vI x2, vI x1, vR t7]) (bc1 := 0) (bs1 := 0) (bc2 := bc) (bs2 := bs) fx_X7_placeOf dX12_tossBottle_111 wd_811 wd_812 wd_813 rfl h12 rfl (Nat.le_of_ble_eq_true rfl) (Nat.le_of_ble_eq_true rfl) (by omega) (by omega) (ls1 := [some (vR (some at9)), some (vI x1)]) rfl k
theorem BX12_tossBottle_114 {d bc bs : Nat} {h : aH} {n : Nat} {Q : aQ} {r0 : Option Nat} {x1 x2 x3 x4 x5 s1 s2 s3 : Int} {aq0 : Nat} {f1 : List aV} (h2 : h aq0 = cO 6 f1) (k : Rn d 0 0 mX6_addBottle 0 [some (vR (some aq0)), some (vI s1), some (vI s2), some (vI s3), some (vI x3), none] [] h n (fun v h1 n1 => Rn (d + 1) bc bs mX12_tossBottle 118 [some (vR r0), some (vI x1), some (vI x2), some (vI x3), some (vI x4), some (vI x5)] (v.toList ++ []) h1 n1 Q)) : Rn (d + 1) (bc) (bs) mX12_tossBottle 114 [some (vR r0), some (vI x1), some (vI x2), some (vI x3), some (vI x4), some (vI x5)] [vI s3, vI s2, vI s1, vR (some aq0)] h n Q := by
  refine Rn_iload_n dX12_tossBottle_114 rfl rfl ?_
  exact Rn_callV (ci := 6) (avs := [vI s1, vI s2, vI s3, vI x3]) (st := []) (bc1 := 0) (bs1 := 0) (bc2 := bc) (bs2 := bs) fx_X6_addBottle dX12_tossBottle_115 wd_815 wd_816 wd_817 rfl h2 rfl (Nat.le_of_ble_eq_true rfl) (Nat.le_of_ble_eq_true rfl) (by omega) (by omega) (ls1 := [some (vR (some aq0)), some (vI s1), some (vI s2), some (vI s3), some (vI x3), none]) rfl k
theorem BX12_tossBottle_118 {d bc bs : Nat} {h : aH} {n : Nat} {Q : aQ} {r0 : Option Nat} {x1 x2 x3 x4 x5 s0 : Int} (k : Q (some (vI s0)) h n) : Rn d (bc) (bs) mX12_tossBottle 118 [some (vR r0), some (vI x1), some (vI x2), some (vI x3), some (vI x4), some (vI x5)] [vI s0] h n Q := by
  exact Rn_ireturn rfl dX12_tossBottle_118 k
theorem dX12_fishBottle_0 : decode cX12_fishBottle 0 = .ok (.aload_n 0, 1) := by decide +kernel
theorem dX12_fishBottle_1 : decode cX12_fishBottle 1 = .ok (.getfield 10, 3) := by decide +kernel
theorem dX12_fishBottle_4 : decode cX12_fishBottle 4 = .ok (.getfield 128, 3) := by decide +kernel
theorem dX12_fishBottle_7 : decode cX12_fishBottle 7 = .ok (.astore 4, 2) := by decide +kernel
theorem dX12_fishBottle_9 : decode cX12_fishBottle 9 = .ok (.aload 4, 2) := by decide +kernel
theorem dX12_fishBottle_11 : decode cX12_fishBottle 11 = .ok (.iload_n 1, 1) := by decide +kernel
theorem dX12_fishBottle_12 : decode cX12_fishBottle 12 = .ok (.invokevirtual 188, 3) := by decide +kernel
theorem dX12_fishBottle_15 : decode cX12_fishBottle 15 = .ok (.ifCond .eq 53, 3) := by decide +kernel
theorem dX12_fishBottle_18 : decode cX12_fishBottle 18 = .ok (.aload_n 0, 1) := by decide +kernel
theorem dX12_fishBottle_19 : decode cX12_fishBottle 19 = .ok (.getfield 10, 3) := by decide +kernel
theorem dX12_fishBottle_22 : decode cX12_fishBottle 22 = .ok (.getfield 68, 3) := by decide +kernel
theorem dX12_fishBottle_25 : decode cX12_fishBottle 25 = .ok (.iload_n 2, 1) := by decide +kernel
theorem dX12_fishBottle_26 : decode cX12_fishBottle 26 = .ok (.invokevirtual 175, 3) := by decide +kernel
theorem dX12_fishBottle_29 : decode cX12_fishBottle 29 = .ok (.ifCond .eq 39, 3) := by decide +kernel
theorem dX12_fishBottle_32 : decode cX12_fishBottle 32 = .ok (.aload 4, 2) := by decide +kernel
theorem dX12_fishBottle_34 : decode cX12_fishBottle 34 = .ok (.iload_n 1, 1) := by decide +kernel
theorem dX12_fishBottle_35 : decode cX12_fishBottle 35 = .ok (.iconst 0, 1) := by decide +kernel
theorem dX12_fishBottle_36 : decode cX12_fishBottle 36 = .ok (.invokevirtual 191, 3) := by decide +kernel
theorem dX12_fishBottle_39 : decode cX12_fishBottle 39 = .ok (.iload_n 2, 1) := by decide +kernel
theorem dX12_fishBottle_40 : decode cX12_fishBottle 40 = .ok (.if_icmp .eq 28, 3) := by decide +kernel
theorem dX12_fishBottle_43 : decode cX12_fishBottle 43 = .ok (.aload 4, 2) := by decide +kernel
theorem dX12_fishBottle_45 : decode cX12_fishBottle 45 = .ok (.iload_n 1, 1) := by decide +kernel
theorem dX12_fishBottle_46 : decode cX12_fishBottle 46 = .ok (.iconst 2, 1) := by decide +kernel
theorem dX12_fishBottle_47 : decode cX12_fishBottle 47 = .ok (.invokevirtual 191, 3) := by decide +kernel
theorem dX12_fishBottle_50 : decode cX12_fishBottle 50 = .ok (.aload_n 0, 1) := by decide +kernel
theorem dX12_fishBottle_51 : decode cX12_fishBottle 51 = .ok (.getfield 10, 3) := by decide +kernel
theorem dX12_fishBottle_54 : decode cX12_fishBottle 54 = .ok (.getfield 68, 3) := by decide +kernel
theorem dX12_fishBottle_57 : decode cX12_fishBottle 57 = .ok (.iload_n 2, 1) := by decide +kernel
theorem dX12_fishBottle_58 : decode cX12_fishBottle 58 = .ok (.invokevirtual 181, 3) := by decide +kernel
theorem dX12_fishBottle_61 : decode cX12_fishBottle 61 = .ok (.if_icmp .ne 7, 3) := by decide +kernel
theorem dX12_fishBottle_64 : decode cX12_fishBottle 64 = .ok (.iconst 1, 1) := by decide +kernel
theorem dX12_fishBottle_65 : decode cX12_fishBottle 65 = .ok (.goto 4, 3) := by decide +kernel
theorem dX12_fishBottle_68 : decode cX12_fishBottle 68 = .ok (.iconst 0, 1) := by decide +kernel
theorem dX12_fishBottle_69 : decode cX12_fishBottle 69 = .ok (.istore 5, 2) := by decide +kernel
theorem dX12_fishBottle_71 : decode cX12_fishBottle 71 = .ok (.iload 5, 2) := by decide +kernel
theorem dX12_fishBottle_73 : decode cX12_fishBottle 73 = .ok (.ifCond .ne 5, 3) := by decide +kernel
theorem dX12_fishBottle_76 : decode cX12_fishBottle 76 = .ok (.iconst 0, 1) := by decide +kernel
theorem dX12_fishBottle_77 : decode cX12_fishBottle 77 = .ok (.ireturn, 1) := by decide +kernel
theorem dX12_fishBottle_78 : decode cX12_fishBottle 78 = .ok (.iload_n 3, 1) := by decide +kernel
theorem dX12_fishBottle_79 : decode cX12_fishBottle 79 = .ok (.ifCond .eq 15, 3) := by decide +kernel
theorem dX12_fishBottle_82 : decode cX12_fishBottle 82 = .ok (.aload_n 0, 1) := by decide +kernel
theorem dX12_fishBottle_83 : decode cX12_fishBottle 83 = .ok (.getfield 10, 3) := by decide +kernel
theorem dX12_fishBottle_86 : decode cX12_fishBottle 86 = .ok (.getfield 152, 3) := by decide +kernel
theorem dX12_fishBottle_89 : decode cX12_fishBottle 89 = .ok (.aload 4, 2) := by decide +kernel
theorem dX12_fishBottle_91 : decode cX12_fishBottle 91 = .ok (.invokevirtual 156, 3) := by decide +kernel
theorem dX12_fishBottle_94 : decode cX12_fishBottle 94 = .ok (.aload 4, 2) := by decide +kernel
theorem dX12_fishBottle_96 : decode cX12_fishBottle 96 = .ok (.iload_n 1, 1) := by decide +kernel
theorem dX12_fishBottle_97 : decode cX12_fishBottle 97 = .ok (.iconst 4, 1) := by decide +kernel
theorem dX12_fishBottle_98 : decode cX12_fishBottle 98 = .ok (.iconst 3, 1) := by decide +kernel
theorem dX12_fishBottle_99 : decode cX12_fishBottle 99 = .ok (.iload_n 2, 1) := by decide +kernel
theorem dX12_fishBottle_100 : decode cX12_fishBottle 100 = .ok (.iadd, 1) := by decide +kernel
theorem dX12_fishBottle_101 : decode cX12_fishBottle 101 = .ok (.invokevirtual 194, 3) := by decide +kernel
theorem dX12_fishBottle_104 : decode cX12_fishBottle 104 = .ok (.aload 4, 2) := by decide +kernel
theorem dX12_fishBottle_106 : decode cX12_fishBottle 106 = .ok (.iload_n 1, 1) := by decide +kernel
theorem dX12_fishBottle_107 : decode cX12_fishBottle 107 = .ok (.iconst 2, 1) := by decide +kernel
theorem dX12_fishBottle_108 : decode cX12_fishBottle 108 = .ok (.invokevirtual 198, 3) := by decide +kernel
theorem dX12_fishBottle_111 : decode cX12_fishBottle 111 = .ok (.iconst 1, 1) := by decide +kernel
theorem dX12_fishBottle_112 : decode cX12_fishBottle 112 = .ok (.ireturn, 1) := by decide +kernel
theorem BX12_fishBottle_0 {d bc bs : Nat} {h : aH} {n : Nat} {Q : aQ} {ar0 at3 at7 : Nat} {x1 x2 x3 : Int} {l4 l5 : Option aV} {f1 f5 f9 : List aV} (h2 : h ar0 = cO 12 f1) (g4 : f1[0]? = some (vR (some at3))) (h6 : h at3 = cO 11 f5) (g8 : f5[1]? = some (vR (some at7))) (h10 : h at7 = cO 6 f9) (k : Rn d 0 0 mX6_isAfloat 0 [some (vR (some at7)), some (vI x1)] [] h n (fun v h1 n1 => Rn (d + 1) bc bs mX12_fishBottle 15 [some (vR (some ar0)), some (vI x1), some (vI x2), some (vI x3), some (vR (some at7)), l5] (v.toList ++ []) h1 n1 Q)) : Rn (d + 1) (bc) (bs) mX12_fishBottle 0 [some (vR (some ar0)), some (vI x1), some (vI x2), some (vI x3), l4, l5] [] h n Q := by
  refine Rn_aload_n dX12_fishBottle_0 rfl rfl rfl ?_
  refine Rn_getfield (ci := 12) (k := 0) dX12_fishBottle_1 rfl in_12 (Nat.le_of_ble_eq_true rfl) wd_460 rfl h2 g4 ?_
  refine Rn_getfield (ci := 11) (k := 1) dX12_fishBottle_4 rfl in_11 (Nat.le_of_ble_eq_true rfl) wd_295 rfl h6 g8 ?_
  refine Rn_astore dX12_fishBottle_7 (Nat.le_of_ble_eq_true rfl) rfl rfl rfl ?_
  refine Rn_aload dX12_fishBottle_9 rfl rfl ?_
  refine Rn_iload_n dX12_fishBottle_11 rfl rfl ?_
  exact Rn_callV (ci := 6) (avs := [vI x1]) (st := []) (bc1 := 0) (bs1 := 0) (bc2 := bc) (bs2 := bs) fx_X6_isAfloat dX12_fishBottle_12 wd_831 wd_832 wd_833 rfl h10 rfl (Nat.le_of_ble_eq_true rfl) (Nat.le_of_ble_eq_true rfl) (by omega) (by omega) (ls1 := [some (vR (some at7)), some (vI x1)]) rfl k
theorem BX12_fishBottle_15 {d bc bs : Nat} {h : aH} {n : Nat} {Q : aQ} {r0 r4 : Option Nat} {x1 x2 x3 s0 : Int} {l5 : Option aV} (kt : s0 = 0 → Rn d bc bs mX12_fishBottle 68 [some (vR r0), some (vI x1), some (vI x2), some (vI x3), some (vR r4), l5] [] h n Q) (kf : s0 ≠ 0 → Rn d bc bs mX12_fishBottle 18 [some (vR r0), some (vI x1), some (vI x2), some (vI x3), some (vR r4), l5] [] h n Q) : Rn d (bc) (bs) mX12_fishBottle 15 [some (vR r0), some (vI x1), some (vI x2), some (vI x3), some (vR r4), l5] [vI s0] h n Q := by
  refine Rn_ifeq (tgt := 68) dX12_fishBottle_15 rfl ?_ ?_
  · exact kt
  · exact kf
theorem BX12_fishBottle_18 {d bc bs : Nat} {h : aH} {n : Nat} {Q : aQ} {ar0 at3 at7 : Nat} {x1 x2 x3 : Int} {r4 : Option Nat} {l5 : Option aV} {f1 f5 f9 : List aV} (h2 : h ar0 = cO 12 f1) (g4 : f1[0]? = some (vR (some at3))) (h6 : h at3 = cO 11 f5) (g8 : f5[0]? = some (vR (some at7))) (h10 : h at7 = cO 7 f9) (k : Rn d 0 0 mX7_hasPerson 0 [some (vR (some at7)), some (vI x2)] [] h n (fun v h1 n1 => Rn (d + 1) bc bs mX12_fishBottle 29 [some (vR (some ar0)), some (vI x1), some (vI x2), some (vI x3), some (vR r4), l5] (v.toList ++ []) h1 n1 Q)) : Rn (d + 1) (bc) (bs) mX12_fishBottle 18 [some (vR (some ar0)), some (vI x1), some (vI x2), some (vI x3), some (vR r4), l5] [] h n Q := by
  refine Rn_aload_n dX12_fishBottle_18 rfl rfl rfl ?_
  refine Rn_getfield (ci := 12) (k := 0) dX12_fishBottle_19 rfl in_12 (Nat.le_of_ble_eq_true rfl) wd_460 rfl h2 g4 ?_
  refine Rn_getfield (ci := 11) (k := 0) dX12_fishBottle_22 rfl in_11 (Nat.le_of_ble_eq_true rfl) wd_293 rfl h6 g8 ?_
  refine Rn_iload_n dX12_fishBottle_25 rfl rfl ?_
  exact Rn_callV (ci := 7) (avs := [vI x2]) (st := []) (bc1 := 0) (bs1 := 0) (bc2 := bc) (bs2 := bs) fx_X7_hasPerson dX12_fishBottle_26 wd_781 wd_782 wd_783 rfl h10 rfl (Nat.le_of_ble_eq_true rfl) (Nat.le_of_ble_eq_true rfl) (by omega) (by omega) (ls1 := [some (vR (some at7)), some (vI x2)]) rfl k
theorem BX12_fishBottle_29 {d bc bs : Nat} {h : aH} {n : Nat} {Q : aQ} {r0 r4 : Option Nat} {x1 x2 x3 s0 : Int} {l5 : Option aV} (kt : s0 = 0 → Rn d bc bs mX12_fishBottle 68 [some (vR r0), some (vI x1), some (vI x2), some (vI x3), some (vR r4), l5] [] h n Q) (kf : s0 ≠ 0 → Rn d bc bs mX12_fishBottle 32 [some (vR r0), some (vI x1), some (vI x2), some (vI x3), some (vR r4), l5] [] h n Q) : Rn d (bc) (bs) mX12_fishBottle 29 [some (vR r0), some (vI x1), some (vI x2), some (vI x3), some (vR r4), l5] [vI s0] h n Q := by
  refine Rn_ifeq (tgt := 68) dX12_fishBottle_29 rfl ?_ ?_
  · exact kt
  · exact kf
theorem BX12_fishBottle_32 {d bc bs : Nat} {h : aH} {n : Nat} {Q : aQ} {r0 : Option Nat} {x1 x2 x3 : Int} {ar4 : Nat} {l5 : Option aV} {f1 : List aV} (h2 : h ar4 = cO 6 f1) (k : Rn d 0 0 mX6_get 0 [some (vR (some ar4)), some (vI x1), some (vI 0), none] [] h n (fun v h1 n1 => Rn (d + 1) bc bs mX12_fishBottle 39 [some (vR r0), some (vI x1), some (vI x2), some (vI x3), some (vR (some ar4)), l5] (v.toList ++ []) h1 n1 Q)) : Rn (d + 1) (bc) (bs) mX12_fishBottle 32 [some (vR r0), some (vI x1), some (vI x2), some (vI x3), some (vR (some ar4)), l5] [] h n Q := by
  refine Rn_aload dX12_fishBottle_32 rfl rfl ?_
  refine Rn_iload_n dX12_fishBottle_34 rfl rfl ?_
  refine Rn_iconst dX12_fishBottle_35 rfl ?_
  exact Rn_callV (ci := 6) (avs := [vI x1, vI 0]) (st := []) (bc1 := 0) (bs1 := 0) (bc2 := bc) (bs2 := bs) fx_X6_get dX12_fishBottle_36 wd_843 wd_840 wd_841 rfl h2 rfl (Nat.le_of_ble_eq_true rfl) (Nat.le_of_ble_eq_true rfl) (by omega) (by omega) (ls1 := [some (vR (some ar4)), some (vI x1), some (vI 0), none]) rfl k
theorem BX12_fishBottle_39 {d bc bs : Nat} {h : aH} {n : Nat} {Q : aQ} {r0 r4 : Option Nat} {x1 x2 x3 s0 : Int} {l5 : Option aV} (kt : s0 = x2 → Rn d bc bs mX12_fishBottle 68 [some (vR r0), some (vI x1), some (vI x2), some (vI x3), some (vR r4), l5] [] h n Q) (kf : s0 ≠ x2 → Rn d bc bs mX12_fishBottle 43 [some (vR r0), some (vI x1), some (vI x2), some (vI x3), some (vR r4), l5] [] h n Q) : Rn d (bc) (bs) mX12_fishBottle 39 [some (vR r0), some (vI x1), some (vI x2), some (vI x3), some (vR r4), l5] [vI s0] h n Q := by
  refine Rn_iload_n dX12_fishBottle_39 rfl rfl ?_
  refine Rn_icmpeq (tgt := 68) dX12_fishBottle_40 rfl ?_ ?_
  · exact kt
  · exact kf
theorem BX12_fishBottle_43 {d bc bs : Nat} {h : aH} {n : Nat} {Q : aQ} {r0 : Option Nat} {x1 x2 x3 : Int} {ar4 : Nat} {l5 : Option aV} {f1 : List aV} (h2 : h ar4 = cO 6 f1) (k : Rn d 0 0 mX6_get 0 [some (vR (some ar4)), some (vI x1), some (vI 2), none] [] h n (fun v h1 n1 => Rn (d + 1) bc bs mX12_fishBottle 50 [some (vR r0), some (vI x1), some (vI x2), some (vI x3), some (vR (some ar4)), l5] (v.toList ++ []) h1 n1 Q)) : Rn (d + 1) (bc) (bs) mX12_fishBottle 43 [some (vR r0), some (vI x1), some (vI x2), some (vI x3), some (vR (some ar4)), l5] [] h n Q := by
  refine Rn_aload dX12_fishBottle_43 rfl rfl ?_
  refine Rn_iload_n dX12_fishBottle_45 rfl rfl ?_
  refine Rn_iconst dX12_fishBottle_46 rfl ?_
  exact Rn_callV (ci := 6) (avs := [vI x1, vI 2]) (st := []) (bc1 := 0) (bs1 := 0) (bc2 := bc) (bs2 := bs) fx_X6_get dX12_fishBottle_47 wd_843 wd_840 wd_841 rfl h2 rfl (Nat.le_of_ble_eq_true rfl) (Nat.le_of_ble_eq_true rfl) (by omega) (by omega) (ls1 := [some (vR (some ar4)), some (vI x1), some (vI 2), none]) rfl k
theorem BX12_fishBottle_50 {d bc bs : Nat} {h : aH} {n : Nat} {Q : aQ} {ar0 at3 at7 : Nat} {x1 x2 x3 s0 : Int} {r4 : Option Nat} {l5 : Option aV} {f1 f5 f9 : List aV} (h2 : h ar0 = cO 12 f1) (g4 : f1[0]? = some (vR (some at3))) (h6 : h at3 = cO 11 f5) (g8 : f5[0]? = some (vR (some at7))) (h10 : h at7 = cO 7 f9) (k : Rn d 0 0 mX7_placeOf 0 [some (vR (some at7)), some (vI x2)] [] h n (fun v h1 n1 => Rn (d + 1) bc bs mX12_fishBottle 61 [some (vR (some ar0)), some (vI x1), some (vI x2), some (vI x3), some (vR r4), l5] (v.toList ++ [vI s0]) h1 n1 Q)) : Rn (d + 1) (bc) (bs) mX12_fishBottle 50 [some (vR (some ar0)), some (vI x1), some (vI x2), some (vI x3), some (vR r4), l5] [vI s0] h n Q := by
  refine Rn_aload_n dX12_fishBottle_50 rfl rfl rfl ?_
  refine Rn_getfield (ci := 12) (k := 0) dX12_fishBottle_51 rfl in_12 (Nat.le_of_ble_eq_true rfl) wd_460 rfl h2 g4 ?_
  refine Rn_getfield (ci := 11) (k := 0) dX12_fishBottle_54 rfl in_11 (Nat.le_of_ble_eq_true rfl) wd_293 rfl h6 g8 ?_
  refine Rn_iload_n dX12_fishBottle_57 rfl rfl ?_
  exact Rn_callV (ci := 7) (avs := [vI x2]) (st := [vI s0]) (bc1 := 0) (bs1 := 0) (bc2 := bc) (bs2 := bs) fx_X7_placeOf dX12_fishBottle_58 wd_811 wd_812 wd_813 rfl h10 rfl (Nat.le_of_ble_eq_true rfl) (Nat.le_of_ble_eq_true rfl) (by omega) (by omega) (ls1 := [some (vR (some at7)), some (vI x2)]) rfl k
theorem BX12_fishBottle_61 {d bc bs : Nat} {h : aH} {n : Nat} {Q : aQ} {r0 r4 : Option Nat} {x1 x2 x3 s0 s1 : Int} {l5 : Option aV} (kt : s0 ≠ s1 → Rn d bc bs mX12_fishBottle 68 [some (vR r0), some (vI x1), some (vI x2), some (vI x3), some (vR r4), l5] [] h n Q) (kf : s0 = s1 → Rn d bc bs mX12_fishBottle 64 [some (vR r0), some (vI x1), some (vI x2), some (vI x3), some (vR r4), l5] [] h n Q) : Rn d (bc) (bs) mX12_fishBottle 61 [some (vR r0), some (vI x1), some (vI x2), some (vI x3), some (vR r4), l5] [vI s1, vI s0] h n Q := by
  refine Rn_icmpne (tgt := 68) dX12_fishBottle_61 rfl ?_ ?_
  · exact kt
  · exact kf
theorem BX12_fishBottle_64 {d bc bs : Nat} {h : aH} {n : Nat} {Q : aQ} {r0 r4 : Option Nat} {x1 x2 x3 : Int} {l5 : Option aV} (kt : (1 : Int) ≠ 0 → Rn d bc bs mX12_fishBottle 78 [some (vR r0), some (vI x1), some (vI x2), some (vI x3), some (vR r4), some (vI 1)] [] h n Q) (kf : (1 : Int) = 0 → Rn d bc bs mX12_fishBottle 76 [some (vR r0), some (vI x1), some (vI x2), some (vI x3), some (vR r4), some (vI 1)] [] h n Q) : Rn d (bc) (bs) mX12_fishBottle 64 [some (vR r0), some (vI x1), some (vI x2), some (vI x3), some (vR r4), l5] [] h n Q := by
  refine Rn_iconst dX12_fishBottle_64 rfl ?_
  refine Rn_goto (tgt := 69) dX12_fishBottle_65 rfl ?_
  refine Rn_istore dX12_fishBottle_69 (Nat.le_of_ble_eq_true rfl) rfl rfl ?_
  refine Rn_iload dX12_fishBottle_71 rfl ?_
  refine Rn_ifne (tgt := 78) dX12_fishBottle_73 rfl ?_ ?_
  · exact kt
  · exact kf
theorem BX12_fishBottle_68 {d bc bs : Nat} {h : aH} {n : Nat} {Q : aQ} {r0 r4 : Option Nat} {x1 x2 x3 : Int} {l5 : Option aV} (kt : (0 : Int) ≠ 0 → Rn d bc bs mX12_fishBottle 78 [some (vR r0), some (vI x1), some (vI x2), some (vI x3), some (vR r4), some (vI 0)] [] h n Q) (kf : (0 : Int) = 0 → Rn d bc bs mX12_fishBottle 76 [some (vR r0), some (vI x1), some (vI x2), some (vI x3), some (vR r4), some (vI 0)] [] h n Q) : Rn d (bc) (bs) mX12_fishBottle 68 [some (vR r0), some (vI x1), some (vI x2), some (vI x3), some (vR r4), l5] [] h n Q := by
  refine Rn_iconst dX12_fishBottle_68 rfl ?_
  refine Rn_istore dX12_fishBottle_69 (Nat.le_of_ble_eq_true rfl) rfl rfl ?_
  refine Rn_iload dX12_fishBottle_71 rfl ?_
  refine Rn_ifne (tgt := 78) dX12_fishBottle_73 rfl ?_ ?_
  · exact kt
  · exact kf
theorem BX12_fishBottle_76 {d bc bs : Nat} {h : aH} {n : Nat} {Q : aQ} {r0 r4 : Option Nat} {x1 x2 x3 x5 : Int} (k : Q (some (vI 0)) h n) : Rn d (bc) (bs) mX12_fishBottle 76 [some (vR r0), some (vI x1), some (vI x2), some (vI x3), some (vR r4), some (vI x5)] [] h n Q := by
  refine Rn_iconst dX12_fishBottle_76 rfl ?_
  exact Rn_zreturn rfl dX12_fishBottle_77 (by decide) k
theorem BX12_fishBottle_78 {d bc bs : Nat} {h : aH} {n : Nat} {Q : aQ} {r0 r4 : Option Nat} {x1 x2 x3 x5 : Int} (kt : x3 = 0 → Rn d bc bs mX12_fishBottle 94 [some (vR r0), some (vI x1), some (vI x2), some (vI x3), some (vR r4), some (vI x5)] [] h n Q) (kf : x3 ≠ 0 → Rn d bc bs mX12_fishBottle 82 [some (vR r0), some (vI x1), some (vI x2), some (vI x3), some (vR r4), some (vI x5)] [] h n Q) : Rn d (bc) (bs) mX12_fishBottle 78 [some (vR r0), some (vI x1), some (vI x2), some (vI x3), some (vR r4), some (vI x5)] [] h n Q := by
  refine Rn_iload_n dX12_fishBottle_78 rfl rfl ?_
  refine Rn_ifeq (tgt := 94) dX12_fishBottle_79 rfl ?_ ?_
  · exact kt
  · exact kf
theorem BX12_fishBottle_82 {d bc bs : Nat} {h : aH} {n : Nat} {Q : aQ} {ar0 at3 at7 : Nat} {x1 x2 x3 x5 : Int} {r4 : Option Nat} {f1 f5 f9 : List aV} (h2 : h ar0 = cO 12 f1) (g4 : f1[0]? = some (vR (some at3))) (h6 : h at3 = cO 11 f5) (g8 : f5[2]? = some (vR (some at7))) (h10 : h at7 = cO 8 f9) (k : Rn d 0 0 mX8_keep 0 [some (vR (some at7)), some (vR r4), none] [] h n (fun v h1 n1 => Rn (d + 1) bc bs mX12_fishBottle 94 [some (vR (some ar0)), some (vI x1), some (vI x2), some (vI x3), some (vR r4), some (vI x5)] (v.toList ++ []) h1 n1 Q)) : Rn (d + 1) (bc) (bs) mX12_fishBottle 82 [some (vR (some ar0)), some (vI x1), some (vI x2), some (vI x3), some (vR r4), some (vI x5)] [] h n Q := by
  refine Rn_aload_n dX12_fishBottle_82 rfl rfl rfl ?_
  refine Rn_getfield (ci := 12) (k := 0) dX12_fishBottle_83 rfl in_12 (Nat.le_of_ble_eq_true rfl) wd_460 rfl h2 g4 ?_
  refine Rn_getfield (ci := 11) (k := 2) dX12_fishBottle_86 rfl in_11 (Nat.le_of_ble_eq_true rfl) wd_297 rfl h6 g8 ?_
  refine Rn_aload dX12_fishBottle_89 rfl rfl ?_
  exact Rn_callV (ci := 8) (avs := [vR r4]) (st := []) (bc1 := 0) (bs1 := 0) (bc2 := bc) (bs2 := bs) fx_X8_keep dX12_fishBottle_91 wd_785 wd_786 wd_787 rfl h10 rfl (Nat.le_of_ble_eq_true rfl) (Nat.le_of_ble_eq_true rfl) (by omega) (by omega) (ls1 := [some (vR (some at7)), some (vR r4), none]) rfl k
theorem BX12_fishBottle_94 {d bc bs : Nat} {h : aH} {n : Nat} {Q : aQ} {r0 : Option Nat} {x1 x2 x3 x5 : Int} {ar4 : Nat} {f2 : List aV} (b1 : -2147483648 ≤ 3 + x2 ∧ 3 + x2 < 2147483648) (h3 : h ar4 = cO 6 f2) (k : Rn d 0 0 mX6_set 0 [some (vR (some ar4)), some (vI x1), some (vI 4), some (vI (3 + x2)), none] [] h n (fun v h1 n1 => Rn (d + 1) bc bs mX12_fishBottle 104 [some (vR r0), some (vI x1), some (vI x2), some (vI x3), some (vR (some ar4)), some (vI x5)] (v.toList ++ []) h1 n1 Q)) : Rn (d + 1) (bc) (bs) mX12_fishBottle 94 [some (vR r0), some (vI x1), some (vI x2), some (vI x3), some (vR (some ar4)), some (vI x5)] [] h n Q := by
  refine Rn_aload dX12_fishBottle_94 rfl rfl ?_
  refine Rn_iload_n dX12_fishBottle_96 rfl rfl ?_
  refine Rn_iconst dX12_fishBottle_97 rfl ?_
  refine Rn_iconst dX12_fishBottle_98 rfl ?_
  refine Rn_iload_n dX12_fishBottle_99 rfl rfl ?_
  refine Rn_iadd dX12_fishBottle_100 ?_
  rw [w32_id b1.1 b1.2]
  exact Rn_callV (ci := 6) (avs := [vI x1, vI 4, vI (3 + x2)]) (st := []) (bc1 := 0) (bs1 := 0) (bc2 := bc) (bs2 := bs) fx_X6_set dX12_fishBottle_101 wd_844 wd_820 wd_821 rfl h3 rfl (Nat.le_of_ble_eq_true rfl) (Nat.le_of_ble_eq_true rfl) (by omega) (by omega) (ls1 := [some (vR (some ar4)), some (vI x1), some (vI 4), some (vI (3 + x2)), none]) rfl k
theorem BX12_fishBottle_104 {d bc bs : Nat} {h : aH} {n : Nat} {Q : aQ} {r0 : Option Nat} {x1 x2 x3 x5 : Int} {ar4 : Nat} {f1 : List aV} (h2 : h ar4 = cO 6 f1) (k : Rn d 0 0 mX6_writeDown 0 [some (vR (some ar4)), some (vI x1), some (vI 2)] [] h n (fun v h1 n1 => Rn (d + 1) bc bs mX12_fishBottle 111 [some (vR r0), some (vI x1), some (vI x2), some (vI x3), some (vR (some ar4)), some (vI x5)] (v.toList ++ []) h1 n1 Q)) : Rn (d + 1) (bc) (bs) mX12_fishBottle 104 [some (vR r0), some (vI x1), some (vI x2), some (vI x3), some (vR (some ar4)), some (vI x5)] [] h n Q := by
  refine Rn_aload dX12_fishBottle_104 rfl rfl ?_
  refine Rn_iload_n dX12_fishBottle_106 rfl rfl ?_
  refine Rn_iconst dX12_fishBottle_107 rfl ?_
  exact Rn_callV (ci := 6) (avs := [vI x1, vI 2]) (st := []) (bc1 := 0) (bs1 := 0) (bc2 := bc) (bs2 := bs) fx_X6_writeDown dX12_fishBottle_108 wd_845 wd_846 wd_847 rfl h2 rfl (Nat.le_of_ble_eq_true rfl) (Nat.le_of_ble_eq_true rfl) (by omega) (by omega) (ls1 := [some (vR (some ar4)), some (vI x1), some (vI 2)]) rfl k
theorem BX12_fishBottle_111 {d bc bs : Nat} {h : aH} {n : Nat} {Q : aQ} {r0 r4 : Option Nat} {x1 x2 x3 x5 : Int} (k : Q (some (vI 1)) h n) : Rn d (bc) (bs) mX12_fishBottle 111 [some (vR r0), some (vI x1), some (vI x2), some (vI x3), some (vR r4), some (vI x5)] [] h n Q := by
  refine Rn_iconst dX12_fishBottle_111 rfl ?_
  exact Rn_zreturn rfl dX12_fishBottle_112 (by decide) k
theorem dX12_tossAgain_0 : decode cX12_tossAgain 0 = .ok (.aload_n 0, 1) := by decide +kernel
theorem dX12_tossAgain_1 : decode cX12_tossAgain 1 = .ok (.getfield 10, 3) := by decide +kernel
theorem dX12_tossAgain_4 : decode cX12_tossAgain 4 = .ok (.getfield 128, 3) := by decide +kernel
theorem dX12_tossAgain_7 : decode cX12_tossAgain 7 = .ok (.astore_n 3, 1) := by decide +kernel
theorem dX12_tossAgain_8 : decode cX12_tossAgain 8 = .ok (.aload_n 3, 1) := by decide +kernel
theorem dX12_tossAgain_9 : decode cX12_tossAgain 9 = .ok (.iload_n 1, 1) := by decide +kernel
theorem dX12_tossAgain_10 : decode cX12_tossAgain 10 = .ok (.invokevirtual 202, 3) := by decide +kernel
theorem dX12_tossAgain_13 : decode cX12_tossAgain 13 = .ok (.ifCond .eq 13, 3) := by decide +kernel
theorem dX12_tossAgain_16 : decode cX12_tossAgain 16 = .ok (.aload_n 3, 1) := by decide +kernel
theorem dX12_tossAgain_17 : decode cX12_tossAgain 17 = .ok (.iload_n 1, 1) := by decide +kernel
theorem dX12_tossAgain_18 : decode cX12_tossAgain 18 = .ok (.iconst 4, 1) := by decide +kernel
theorem dX12_tossAgain_19 : decode cX12_tossAgain 19 = .ok (.invokevirtual 191, 3) := by decide +kernel
theorem dX12_tossAgain_22 : decode cX12_tossAgain 22 = .ok (.iconst 3, 1) := by decide +kernel
theorem dX12_tossAgain_23 : decode cX12_tossAgain 23 = .ok (.if_icmp .ge 5, 3) := by decide +kernel
theorem dX12_tossAgain_26 : decode cX12_tossAgain 26 = .ok (.iconst 0, 1) := by decide +kernel
theorem dX12_tossAgain_27 : decode cX12_tossAgain 27 = .ok (.ireturn, 1) := by decide +kernel
theorem dX12_tossAgain_28 : decode cX12_tossAgain 28 = .ok (.iload_n 2, 1) := by decide +kernel
theorem dX12_tossAgain_29 : decode cX12_tossAgain 29 = .ok (.ifCond .eq 14, 3) := by decide +kernel
theorem dX12_tossAgain_32 : decode cX12_tossAgain 32 = .ok (.aload_n 0, 1) := by decide +kernel
theorem dX12_tossAgain_33 : decode cX12_tossAgain 33 = .ok (.getfield 10, 3) := by decide +kernel
theorem dX12_tossAgain_36 : decode cX12_tossAgain 36 = .ok (.getfield 152, 3) := by decide +kernel
theorem dX12_tossAgain_39 : decode cX12_tossAgain 39 = .ok (.aload_n 3, 1) := by decide +kernel
theorem dX12_tossAgain_40 : decode cX12_tossAgain 40 = .ok (.invokevirtual 156, 3) := by decide +kernel
theorem dX12_tossAgain_43 : decode cX12_tossAgain 43 = .ok (.aload_n 3, 1) := by decide +kernel
theorem dX12_tossAgain_44 : decode cX12_tossAgain 44 = .ok (.iload_n 1, 1) := by decide +kernel
theorem dX12_tossAgain_45 : decode cX12_tossAgain 45 = .ok (.iconst 2, 1) := by decide +kernel
theorem dX12_tossAgain_46 : decode cX12_tossAgain 46 = .ok (.aload_n 0, 1) := by decide +kernel
theorem dX12_tossAgain_47 : decode cX12_tossAgain 47 = .ok (.getfield 10, 3) := by decide +kernel
theorem dX12_tossAgain_50 : decode cX12_tossAgain 50 = .ok (.getfield 68, 3) := by decide +kernel
theorem dX12_tossAgain_53 : decode cX12_tossAgain 53 = .ok (.aload_n 3, 1) := by decide +kernel
theorem dX12_tossAgain_54 : decode cX12_tossAgain 54 = .ok (.iload_n 1, 1) := by decide +kernel
theorem dX12_tossAgain_55 : decode cX12_tossAgain 55 = .ok (.iconst 4, 1) := by decide +kernel
theorem dX12_tossAgain_56 : decode cX12_tossAgain 56 = .ok (.invokevirtual 191, 3) := by decide +kernel
theorem dX12_tossAgain_59 : decode cX12_tossAgain 59 = .ok (.iconst 3, 1) := by decide +kernel
theorem dX12_tossAgain_60 : decode cX12_tossAgain 60 = .ok (.isub, 1) := by decide +kernel
theorem dX12_tossAgain_61 : decode cX12_tossAgain 61 = .ok (.invokevirtual 181, 3) := by decide +kernel
theorem dX12_tossAgain_64 : decode cX12_tossAgain 64 = .ok (.invokevirtual 194, 3) := by decide +kernel
theorem dX12_tossAgain_67 : decode cX12_tossAgain 67 = .ok (.aload_n 3, 1) := by decide +kernel
theorem dX12_tossAgain_68 : decode cX12_tossAgain 68 = .ok (.iload_n 1, 1) := by decide +kernel
theorem dX12_tossAgain_69 : decode cX12_tossAgain 69 = .ok (.iconst 4, 1) := by decide +kernel
theorem dX12_tossAgain_70 : decode cX12_tossAgain 70 = .ok (.iconst 0, 1) := by decide +kernel
theorem dX12_tossAgain_71 : decode cX12_tossAgain 71 = .ok (.invokevirtual 194, 3) := by decide +kernel
theorem dX12_tossAgain_74 : decode cX12_tossAgain 74 = .ok (.iconst 1, 1) := by decide +kernel
theorem dX12_tossAgain_75 : decode cX12_tossAgain 75 = .ok (.ireturn, 1) := by decide +kernel
theorem BX12_tossAgain_0 {d bc bs : Nat} {h : aH} {n : Nat} {Q : aQ} {ar0 at3 at7 : Nat} {x1 x2 : Int} {l3 : Option aV} {f1 f5 f9 : List aV} (h2 : h ar0 = cO 12 f1) (g4 : f1[0]? = some (vR (some at3))) (h6 : h at3 = cO 11 f5) (g8 : f5[1]? = some (vR (some at7))) (h10 : h at7 = cO 6 f9) (k : Rn d 0 0 mX6_hasBottle 0 [some (vR (some at7)), some (vI x1)] [] h n (fun v h1 n1 => Rn (d + 1) bc bs mX12_tossAgain 13 [some (vR (some ar0)), some (vI x1), some (vI x2), some (vR (some at7))] (v.toList ++ []) h1 n1 Q)) : Rn (d + 1) (bc) (bs) mX12_tossAgain 0 [some (vR (some ar0)), some (vI x1), some (vI x2), l3] [] h n Q := by
  refine Rn_aload_n dX12_tossAgain_0 rfl rfl rfl ?_
  refine Rn_getfield (ci := 12) (k := 0) dX12_tossAgain_1 rfl in_12 (Nat.le_of_ble_eq_true rfl) wd_460 rfl h2 g4 ?_
  refine Rn_getfield (ci := 11) (k := 1) dX12_tossAgain_4 rfl in_11 (Nat.le_of_ble_eq_true rfl) wd_295 rfl h6 g8 ?_
  refine Rn_astore_n dX12_tossAgain_7 rfl (Nat.le_of_ble_eq_true rfl) rfl rfl rfl ?_
  refine Rn_aload_n dX12_tossAgain_8 rfl rfl rfl ?_
  refine Rn_iload_n dX12_tossAgain_9 rfl rfl ?_
  exact Rn_callV (ci := 6) (avs := [vI x1]) (st := []) (bc1 := 0) (bs1 := 0) (bc2 := bc) (bs2 := bs) fx_X6_hasBottle dX12_tossAgain_10 wd_862 wd_836 wd_837 rfl h10 rfl (Nat.le_of_ble_eq_true rfl) (Nat.le_of_ble_eq_true rfl) (by omega) (by omega) (ls1 := [some (vR (some at7)), some (vI x1)]) rfl k
theorem BX12_tossAgain_13 {d bc bs : Nat} {h : aH} {n : Nat} {Q : aQ} {r0 r3 : Option Nat} {x1 x2 s0 : Int} (kt : s0 = 0 → Rn d bc bs mX12_tossAgain 26 [some (vR r0), some (vI x1), some (vI x2), some (vR r3)] [] h n Q) (kf : s0 ≠ 0 → Rn d bc bs mX12_tossAgain 16 [some (vR r0), some (vI x1), some (vI x2), some (vR r3)] [] h n Q) : Rn d (bc) (bs) mX12_tossAgain 13 [some (vR r0), some (vI x1), some (vI x2), some (vR r3)] [vI s0] h n Q := by
  refine Rn_ifeq (tgt := 26) dX12_tossAgain_13 rfl ?_ ?_
  · exact kt
  · exact kf
theorem BX12_tossAgain_16 {d bc bs : Nat} {h : aH} {n : Nat} {Q : aQ} {r0 : Option Nat} {x1 x2 : Int} {ar3 : Nat} {f1 : List aV} (h2 : h ar3 = cO 6 f1) (k : Rn d 0 0 mX6_get 0 [some (vR (some ar3)), some (vI x1), some (vI 4), none] [] h n (fun v h1 n1 => Rn (d + 1) bc bs mX12_tossAgain 22 [some (vR r0), some (vI x1), some (vI x2), some (vR (some ar3))] (v.toList ++ []) h1 n1 Q)) : Rn (d + 1) (bc) (bs) mX12_tossAgain 16 [some (vR r0), some (vI x1), some (vI x2), some (vR (some ar3))] [] h n Q := by
  refine Rn_aload_n dX12_tossAgain_16 rfl rfl rfl ?_
  refine Rn_iload_n dX12_tossAgain_17 rfl rfl ?_
  refine Rn_iconst dX12_tossAgain_18 rfl ?_
  exact Rn_callV (ci := 6) (avs := [vI x1, vI 4]) (st := []) (bc1 := 0) (bs1 := 0) (bc2 := bc) (bs2 := bs) fx_X6_get dX12_tossAgain_19 wd_843 wd_840 wd_841 rfl h2 rfl (Nat.le_of_ble_eq_true rfl) (Nat.le_of_ble_eq_true rfl) (by omega) (by omega) (ls1 := [some (vR (some ar3)), some (vI x1), some (vI 4), none]) rfl k
theorem BX12_tossAgain_22 {d bc bs : Nat} {h : aH} {n : Nat} {Q : aQ} {r0 r3 : Option Nat} {x1 x2 s0 : Int} (kt : 3 ≤ s0 → Rn d bc bs mX12_tossAgain 28 [some (vR r0), some (vI x1), some (vI x2), some (vR r3)] [] h n Q) (kf : s0 < 3 → Rn d bc bs mX12_tossAgain 26 [some (vR r0), some (vI x1), some (vI x2), some (vR r3)] [] h n Q) : Rn d (bc) (bs) mX12_tossAgain 22 [some (vR r0), some (vI x1), some (vI x2), some (vR r3)] [vI s0] h n Q := by
  refine Rn_iconst dX12_tossAgain_22 rfl ?_
  refine Rn_icmpge (tgt := 28) dX12_tossAgain_23 rfl ?_ ?_
  · exact kt
  · exact kf
theorem BX12_tossAgain_26 {d bc bs : Nat} {h : aH} {n : Nat} {Q : aQ} {r0 r3 : Option Nat} {x1 x2 : Int} (k : Q (some (vI 0)) h n) : Rn d (bc) (bs) mX12_tossAgain 26 [some (vR r0), some (vI x1), some (vI x2), some (vR r3)] [] h n Q := by
  refine Rn_iconst dX12_tossAgain_26 rfl ?_
  exact Rn_zreturn rfl dX12_tossAgain_27 (by decide) k
theorem BX12_tossAgain_28 {d bc bs : Nat} {h : aH} {n : Nat} {Q : aQ} {r0 r3 : Option Nat} {x1 x2 : Int} (kt : x2 = 0 → Rn d bc bs mX12_tossAgain 43 [some (vR r0), some (vI x1), some (vI x2), some (vR r3)] [] h n Q) (kf : x2 ≠ 0 → Rn d bc bs mX12_tossAgain 32 [some (vR r0), some (vI x1), some (vI x2), some (vR r3)] [] h n Q) : Rn d (bc) (bs) mX12_tossAgain 28 [some (vR r0), some (vI x1), some (vI x2), some (vR r3)] [] h n Q := by
  refine Rn_iload_n dX12_tossAgain_28 rfl rfl ?_
  refine Rn_ifeq (tgt := 43) dX12_tossAgain_29 rfl ?_ ?_
  · exact kt
  · exact kf
theorem BX12_tossAgain_32 {d bc bs : Nat} {h : aH} {n : Nat} {Q : aQ} {ar0 at3 at7 : Nat} {x1 x2 : Int} {r3 : Option Nat} {f1 f5 f9 : List aV} (h2 : h ar0 = cO 12 f1) (g4 : f1[0]? = some (vR (some at3))) (h6 : h at3 = cO 11 f5) (g8 : f5[2]? = some (vR (some at7))) (h10 : h at7 = cO 8 f9) (k : Rn d 0 0 mX8_keep 0 [some (vR (some at7)), some (vR r3), none] [] h n (fun v h1 n1 => Rn (d + 1) bc bs mX12_tossAgain 43 [some (vR (some ar0)), some (vI x1), some (vI x2), some (vR r3)] (v.toList ++ []) h1 n1 Q)) : Rn (d + 1) (bc) (bs) mX12_tossAgain 32 [some (vR (some ar0)), some (vI x1), some (vI x2), some (vR r3)] [] h n Q := by
  refine Rn_aload_n dX12_tossAgain_32 rfl rfl rfl ?_
  refine Rn_getfield (ci := 12) (k := 0) dX12_tossAgain_33 rfl in_12 (Nat.le_of_ble_eq_true rfl) wd_460 rfl h2 g4 ?_
  refine Rn_getfield (ci := 11) (k := 2) dX12_tossAgain_36 rfl in_11 (Nat.le_of_ble_eq_true rfl) wd_297 rfl h6 g8 ?_
  refine Rn_aload_n dX12_tossAgain_39 rfl rfl rfl ?_
  exact Rn_callV (ci := 8) (avs := [vR r3]) (st := []) (bc1 := 0) (bs1 := 0) (bc2 := bc) (bs2 := bs) fx_X8_keep dX12_tossAgain_40 wd_785 wd_786 wd_787 rfl h10 rfl (Nat.le_of_ble_eq_true rfl) (Nat.le_of_ble_eq_true rfl) (by omega) (by omega) (ls1 := [some (vR (some at7)), some (vR r3), none]) rfl k
theorem BX12_tossAgain_43 {d bc bs : Nat} {h : aH} {n : Nat} {Q : aQ} {ar0 ar3 at3 : Nat} {x1 x2 : Int} {f1 f5 f9 : List aV} {t7 : Option Nat} (h2 : h ar0 = cO 12 f1) (g4 : f1[0]? = some (vR (some at3))) (h6 : h at3 = cO 11 f5) (g8 : f5[0]? = some (vR t7)) (h10 : h ar3 = cO 6 f9) (k : Rn d 0 0 mX6_get 0 [some (vR (some ar3)), some (vI x1), some (vI 4), none] [] h n (fun v h1 n1 => Rn (d + 1) bc bs mX12_tossAgain 59 [some (vR (some ar0)), some (vI x1), some (vI x2), some (vR (some ar3))] (v.toList ++ [vR t7, vI 2, vI x1, vR (some ar3)]) h1 n1 Q)) : Rn (d + 1) (bc) (bs) mX12_tossAgain 43 [some (vR (some ar0)), some (vI x1), some (vI x2), some (vR (some ar3))] [] h n Q := by
  refine Rn_aload_n dX12_tossAgain_43 rfl rfl rfl ?_
  refine Rn_iload_n dX12_tossAgain_44 rfl rfl ?_
  refine Rn_iconst dX12_tossAgain_45 rfl ?_
  refine Rn_aload_n dX12_tossAgain_46 rfl rfl rfl ?_
  refine Rn_getfield (ci := 12) (k := 0) dX12_tossAgain_47 rfl in_12 (Nat.le_of_ble_eq_true rfl) wd_460 rfl h2 g4 ?_
  refine Rn_getfield (ci := 11) (k := 0) dX12_tossAgain_50 rfl in_11 (Nat.le_of_ble_eq_true rfl) wd_293 rfl h6 g8 ?_
  refine Rn_aload_n dX12_tossAgain_53 rfl rfl rfl ?_
  refine Rn_iload_n dX12_tossAgain_54 rfl rfl ?_
  refine Rn_iconst dX12_tossAgain_55 rfl ?_
  exact Rn_callV (ci := 6) (avs := [vI x1, vI 4]) (st := [vR t7, vI 2, vI x1, vR (some ar3)]) (bc1 := 0) (bs1 := 0) (bc2 := bc) (bs2 := bs) fx_X6_get dX12_tossAgain_56 wd_843 wd_840 wd_841 rfl h10 rfl (Nat.le_of_ble_eq_true rfl) (Nat.le_of_ble_eq_true rfl) (by omega) (by omega) (ls1 := [some (vR (some ar3)), some (vI x1), some (vI 4), none]) rfl k
theorem BX12_tossAgain_59 {d bc bs : Nat} {h : aH} {n : Nat} {Q : aQ} {r0 r3 q0 : Option Nat} {x1 x2 s1 s2 s4 : Int} {aq3 : Nat} {f2 : List aV} (b1 : -2147483648 ≤ s4 - 3 ∧ s4 - 3 < 2147483648) (h3 : h aq3 = cO 7 f2) (k : Rn d 0 0 mX7_placeOf 0 [some (vR (some aq3)), some (vI (s4 - 3))] [] h n (fun v h1 n1 => Rn (d + 1) bc bs mX12_tossAgain 64 [some (vR r0), some (vI x1), some (vI x2), some (vR r3)] (v.toList ++ [vI s2, vI s1, vR q0]) h1 n1 Q)) : Rn (d + 1) (bc) (bs) mX12_tossAgain 59 [some (vR r0), some (vI x1), some (vI x2), some (vR r3)] [vI s4, vR (some aq3), vI s2, vI s1, vR q0] h n Q := by
  refine Rn_iconst dX12_tossAgain_59 rfl ?_
  refine Rn_isub dX12_tossAgain_60 ?_
  rw [w32_id b1.1 b1.2]
  exact Rn_callV (ci := 7) (avs := [vI (s4 - 3)]) (st := [vI s2, vI s1, vR q0]) (bc1 := 0) (bs1 := 0) (bc2 := bc) (bs2 := bs) fx_X7_placeOf dX12_tossAgain_61 wd_811 wd_812 wd_813 rfl h3 rfl (Nat.le_of_ble_eq_true rfl) (Nat.le_of_ble_eq_true rfl) (by omega) (by omega) (ls1 := [some (vR (some aq3)), some (vI (s4 - 3))]) rfl k
theorem BX12_tossAgain_64 {d bc bs : Nat} {h : aH} {n : Nat} {Q : aQ} {r0 r3 : Option Nat} {x1 x2 s1 s2 s3 : Int} {aq0 : Nat} {f1 : List aV} (h2 : h aq0 = cO 6 f1) (k : Rn d 0 0 mX6_set 0 [some (vR (some aq0)), some (vI s1), some (vI s2), some (vI s3), none] [] h n (fun v h1 n1 => Rn (d + 1) bc bs mX12_tossAgain 67 [some (vR r0), some (vI x1), some (vI x2), some (vR r3)] (v.toList ++ []) h1 n1 Q)) : Rn (d + 1) (bc) (bs) mX12_tossAgain 64 [some (vR r0), some (vI x1), some (vI x2), some (vR r3)] [vI s3, vI s2, vI s1, vR (some aq0)] h n Q := by
  exact Rn_callV (ci := 6) (avs := [vI s1, vI s2, vI s3]) (st := []) (bc1 := 0) (bs1 := 0) (bc2 := bc) (bs2 := bs) fx_X6_set dX12_tossAgain_64 wd_844 wd_820 wd_821 rfl h2 rfl (Nat.le_of_ble_eq_true rfl) (Nat.le_of_ble_eq_true rfl) (by omega) (by omega) (ls1 := [some (vR (some aq0)), some (vI s1), some (vI s2), some (vI s3), none]) rfl k
theorem BX12_tossAgain_67 {d bc bs : Nat} {h : aH} {n : Nat} {Q : aQ} {r0 : Option Nat} {x1 x2 : Int} {ar3 : Nat} {f1 : List aV} (h2 : h ar3 = cO 6 f1) (k : Rn d 0 0 mX6_set 0 [some (vR (some ar3)), some (vI x1), some (vI 4), some (vI 0), none] [] h n (fun v h1 n1 => Rn (d + 1) bc bs mX12_tossAgain 74 [some (vR r0), some (vI x1), some (vI x2), some (vR (some ar3))] (v.toList ++ []) h1 n1 Q)) : Rn (d + 1) (bc) (bs) mX12_tossAgain 67 [some (vR r0), some (vI x1), some (vI x2), some (vR (some ar3))] [] h n Q := by
  refine Rn_aload_n dX12_tossAgain_67 rfl rfl rfl ?_
  refine Rn_iload_n dX12_tossAgain_68 rfl rfl ?_
  refine Rn_iconst dX12_tossAgain_69 rfl ?_
  refine Rn_iconst dX12_tossAgain_70 rfl ?_
  exact Rn_callV (ci := 6) (avs := [vI x1, vI 4, vI 0]) (st := []) (bc1 := 0) (bs1 := 0) (bc2 := bc) (bs2 := bs) fx_X6_set dX12_tossAgain_71 wd_844 wd_820 wd_821 rfl h2 rfl (Nat.le_of_ble_eq_true rfl) (Nat.le_of_ble_eq_true rfl) (by omega) (by omega) (ls1 := [some (vR (some ar3)), some (vI x1), some (vI 4), some (vI 0), none]) rfl k
theorem BX12_tossAgain_74 {d bc bs : Nat} {h : aH} {n : Nat} {Q : aQ} {r0 r3 : Option Nat} {x1 x2 : Int} (k : Q (some (vI 1)) h n) : Rn d (bc) (bs) mX12_tossAgain 74 [some (vR r0), some (vI x1), some (vI x2), some (vR r3)] [] h n Q := by
  refine Rn_iconst dX12_tossAgain_74 rfl ?_
  exact Rn_zreturn rfl dX12_tossAgain_75 (by decide) k
theorem dX12_passTides_0 : decode cX12_passTides 0 = .ok (.iconst 0, 1) := by decide +kernel
theorem dX12_passTides_1 : decode cX12_passTides 1 = .ok (.istore_n 2, 1) := by decide +kernel
theorem dX12_passTides_2 : decode cX12_passTides 2 = .ok (.iconst 0, 1) := by decide +kernel
theorem dX12_passTides_3 : decode cX12_passTides 3 = .ok (.istore_n 3, 1) := by decide +kernel
theorem dX12_passTides_4 : decode cX12_passTides 4 = .ok (.iload_n 3, 1) := by decide +kernel
theorem dX12_passTides_5 : decode cX12_passTides 5 = .ok (.iload_n 1, 1) := by decide +kernel
theorem dX12_passTides_6 : decode cX12_passTides 6 = .ok (.if_icmp .ge 73, 3) := by decide +kernel
theorem dX12_passTides_9 : decode cX12_passTides 9 = .ok (.aload_n 0, 1) := by decide +kernel
theorem dX12_passTides_10 : decode cX12_passTides 10 = .ok (.getfield 10, 3) := by decide +kernel
theorem dX12_passTides_13 : decode cX12_passTides 13 = .ok (.getfield 128, 3) := by decide +kernel
theorem dX12_passTides_16 : decode cX12_passTides 16 = .ok (.getfield 131, 3) := by decide +kernel
theorem dX12_passTides_19 : decode cX12_passTides 19 = .ok (.sipush 9999, 3) := by decide +kernel
theorem dX12_passTides_22 : decode cX12_passTides 22 = .ok (.if_icmp .ge 57, 3) := by decide +kernel
theorem dX12_passTides_25 : decode cX12_passTides 25 = .ok (.aload_n 0, 1) := by decide +kernel
theorem dX12_passTides_26 : decode cX12_passTides 26 = .ok (.getfield 10, 3) := by decide +kernel
theorem dX12_passTides_29 : decode cX12_passTides 29 = .ok (.getfield 152, 3) := by decide +kernel
theorem dX12_passTides_32 : decode cX12_passTides 32 = .ok (.aload_n 0, 1) := by decide +kernel
theorem dX12_passTides_33 : decode cX12_passTides 33 = .ok (.getfield 10, 3) := by decide +kernel
theorem dX12_passTides_36 : decode cX12_passTides 36 = .ok (.getfield 128, 3) := by decide +kernel
theorem dX12_passTides_39 : decode cX12_passTides 39 = .ok (.invokevirtual 156, 3) := by decide +kernel
theorem dX12_passTides_42 : decode cX12_passTides 42 = .ok (.iload_n 2, 1) := by decide +kernel
theorem dX12_passTides_43 : decode cX12_passTides 43 = .ok (.aload_n 0, 1) := by decide +kernel
theorem dX12_passTides_44 : decode cX12_passTides 44 = .ok (.getfield 36, 3) := by decide +kernel
theorem dX12_passTides_47 : decode cX12_passTides 47 = .ok (.aload_n 0, 1) := by decide +kernel
theorem dX12_passTides_48 : decode cX12_passTides 48 = .ok (.getfield 10, 3) := by decide +kernel
theorem dX12_passTides_51 : decode cX12_passTides 51 = .ok (.getfield 128, 3) := by decide +kernel
theorem dX12_passTides_54 : decode cX12_passTides 54 = .ok (.aload_n 0, 1) := by decide +kernel
theorem dX12_passTides_55 : decode cX12_passTides 55 = .ok (.getfield 10, 3) := by decide +kernel
theorem dX12_passTides_58 : decode cX12_passTides 58 = .ok (.getfield 68, 3) := by decide +kernel
theorem dX12_passTides_61 : decode cX12_passTides 61 = .ok (.aload_n 0, 1) := by decide +kernel
theorem dX12_passTides_62 : decode cX12_passTides 62 = .ok (.getfield 10, 3) := by decide +kernel
theorem dX12_passTides_65 : decode cX12_passTides 65 = .ok (.invokevirtual 205, 3) := by decide +kernel
theorem dX12_passTides_68 : decode cX12_passTides 68 = .ok (.invokevirtual 209, 3) := by decide +kernel
theorem dX12_passTides_71 : decode cX12_passTides 71 = .ok (.iadd, 1) := by decide +kernel
theorem dX12_passTides_72 : decode cX12_passTides 72 = .ok (.istore_n 2, 1) := by decide +kernel
theorem dX12_passTides_73 : decode cX12_passTides 73 = .ok (.iinc 3 1, 3) := by decide +kernel
theorem dX12_passTides_76 : decode cX12_passTides 76 = .ok (.goto (-72), 3) := by decide +kernel
theorem dX12_passTides_79 : decode cX12_passTides 79 = .ok (.iload_n 2, 1) := by decide +kernel
theorem dX12_passTides_80 : decode cX12_passTides 80 = .ok (.ireturn, 1) := by decide +kernel
theorem BX12_passTides_0 {d bc bs : Nat} {h : aH} {n : Nat} {Q : aQ} {r0 : Option Nat} {x1 : Int} {l2 l3 : Option aV} (k : Rn d bc bs mX12_passTides 4 [some (vR r0), some (vI x1), some (vI 0), some (vI 0)] [] h n Q) : Rn d (bc) (bs) mX12_passTides 0 [some (vR r0), some (vI x1), l2, l3] [] h n Q := by
  refine Rn_iconst dX12_passTides_0 rfl ?_
  refine Rn_istore_n dX12_passTides_1 rfl (Nat.le_of_ble_eq_true rfl) rfl rfl ?_
  refine Rn_iconst dX12_passTides_2 rfl ?_
  refine Rn_istore_n dX12_passTides_3 rfl (Nat.le_of_ble_eq_true rfl) rfl rfl ?_
  exact k
theorem BX12_passTides_4 {d bc bs : Nat} {h : aH} {n : Nat} {Q : aQ} {r0 : Option Nat} {x1 x2 x3 : Int} (kt : x1 ≤ x3 → Rn d bc bs mX12_passTides 79 [some (vR r0), some (vI x1), some (vI x2), some (vI x3)] [] h n Q) (kf : x3 < x1 → Rn d bc bs mX12_passTides 9 [some (vR r0), some (vI x1), some (vI x2), some (vI x3)] [] h n Q) : Rn d (bc) (bs) mX12_passTides 4 [some (vR r0), some (vI x1), some (vI x2), some (vI x3)] [] h n Q := by
  refine Rn_iload_n dX12_passTides_4 rfl rfl ?_
  refine Rn_iload_n dX12_passTides_5 rfl rfl ?_
  refine Rn_icmpge (tgt := 79) dX12_passTides_6 rfl ?_ ?_
  · exact kt
  · exact kf
theorem BX12_passTides_9 {d bc bs : Nat} {h : aH} {n : Nat} {Q : aQ} {ar0 at3 at7 : Nat} {x1 x2 x3 v11 : Int} {f1 f5 f9 : List aV} (h2 : h ar0 = cO 12 f1) (g4 : f1[0]? = some (vR (some at3))) (h6 : h at3 = cO 11 f5) (g8 : f5[1]? = some (vR (some at7))) (h10 : h at7 = cO 6 f9) (g12 : f9[3]? = some (vI v11)) (kt : 9999 ≤ v11 → Rn d bc bs mX12_passTides 79 [some (vR (some ar0)), some (vI x1), some (vI x2), some (vI x3)] [] h n Q) (kf : v11 < 9999 → Rn d bc bs mX12_passTides 25 [some (vR (some ar0)), some (vI x1), some (vI x2), some (vI x3)] [] h n Q) : Rn d (bc) (bs) mX12_passTides 9 [some (vR (some ar0)), some (vI x1), some (vI x2), some (vI x3)] [] h n Q := by
  refine Rn_aload_n dX12_passTides_9 rfl rfl rfl ?_
  refine Rn_getfield (ci := 12) (k := 0) dX12_passTides_10 rfl in_12 (Nat.le_of_ble_eq_true rfl) wd_460 rfl h2 g4 ?_
  refine Rn_getfield (ci := 11) (k := 1) dX12_passTides_13 rfl in_11 (Nat.le_of_ble_eq_true rfl) wd_295 rfl h6 g8 ?_
  refine Rn_getfield (ci := 6) (k := 3) dX12_passTides_16 rfl in_6 (Nat.le_of_ble_eq_true rfl) wd_210 rfl h10 g12 ?_
  refine Rn_sipush dX12_passTides_19 rfl ?_
  refine Rn_icmpge (tgt := 79) dX12_passTides_22 rfl ?_ ?_
  · exact kt
  · exact kf
theorem BX12_passTides_25 {d bc bs : Nat} {h : aH} {n : Nat} {Q : aQ} {ar0 at3 at7 : Nat} {x1 x2 x3 : Int} {f1 f5 f11 : List aV} {t9 : Option Nat} (h2 : h ar0 = cO 12 f1) (g4 : f1[0]? = some (vR (some at3))) (h6 : h at3 = cO 11 f5) (g8 : f5[2]? = some (vR (some at7))) (g10 : f5[1]? = some (vR t9)) (h12 : h at7 = cO 8 f11) (k : Rn d 0 0 mX8_keep 0 [some (vR (some at7)), some (vR t9), none] [] h n (fun v h1 n1 => Rn (d + 1) bc bs mX12_passTides 42 [some (vR (some ar0)), some (vI x1), some (vI x2), some (vI x3)] (v.toList ++ []) h1 n1 Q)) : Rn (d + 1) (bc) (bs) mX12_passTides 25 [some (vR (some ar0)), some (vI x1), some (vI x2), some (vI x3)] [] h n Q := by
  refine Rn_aload_n dX12_passTides_25 rfl rfl rfl ?_
  refine Rn_getfield (ci := 12) (k := 0) dX12_passTides_26 rfl in_12 (Nat.le_of_ble_eq_true rfl) wd_460 rfl h2 g4 ?_
  refine Rn_getfield (ci := 11) (k := 2) dX12_passTides_29 rfl in_11 (Nat.le_of_ble_eq_true rfl) wd_297 rfl h6 g8 ?_
  refine Rn_aload_n dX12_passTides_32 rfl rfl rfl ?_
  refine Rn_getfield (ci := 12) (k := 0) dX12_passTides_33 rfl in_12 (Nat.le_of_ble_eq_true rfl) wd_460 rfl h2 g4 ?_
  refine Rn_getfield (ci := 11) (k := 1) dX12_passTides_36 rfl in_11 (Nat.le_of_ble_eq_true rfl) wd_295 rfl h6 g10 ?_
  exact Rn_callV (ci := 8) (avs := [vR t9]) (st := []) (bc1 := 0) (bs1 := 0) (bc2 := bc) (bs2 := bs) fx_X8_keep dX12_passTides_39 wd_785 wd_786 wd_787 rfl h12 rfl (Nat.le_of_ble_eq_true rfl) (Nat.le_of_ble_eq_true rfl) (by omega) (by omega) (ls1 := [some (vR (some at7)), some (vR t9), none]) rfl k
theorem BX12_passTides_42 {d bc bs : Nat} {h : aH} {n : Nat} {Q : aQ} {ar0 at5 : Nat} {x1 x2 x3 : Int} {f1 f7 : List aV} {t3 t9 t11 : Option Nat} (h2 : h ar0 = cO 12 f1) (g4 : f1[4]? = some (vR t3)) (g6 : f1[0]? = some (vR (some at5))) (h8 : h at5 = cO 11 f7) (g10 : f7[1]? = some (vR t9)) (g12 : f7[0]? = some (vR t11)) (k : Rn d 0 0 mX11_rules 0 [some (vR (some at5))] [] h n (fun v h1 n1 => Rn (d + 1) bc bs mX12_passTides 68 [some (vR (some ar0)), some (vI x1), some (vI x2), some (vI x3)] (v.toList ++ [vR t11, vR t9, vR t3, vI x2]) h1 n1 Q)) : Rn (d + 1) (bc) (bs) mX12_passTides 42 [some (vR (some ar0)), some (vI x1), some (vI x2), some (vI x3)] [] h n Q := by
  refine Rn_iload_n dX12_passTides_42 rfl rfl ?_
  refine Rn_aload_n dX12_passTides_43 rfl rfl rfl ?_
  refine Rn_getfield (ci := 12) (k := 4) dX12_passTides_44 rfl in_12 (Nat.le_of_ble_eq_true rfl) wd_464 rfl h2 g4 ?_
  refine Rn_aload_n dX12_passTides_47 rfl rfl rfl ?_
  refine Rn_getfield (ci := 12) (k := 0) dX12_passTides_48 rfl in_12 (Nat.le_of_ble_eq_true rfl) wd_460 rfl h2 g6 ?_
  refine Rn_getfield (ci := 11) (k := 1) dX12_passTides_51 rfl in_11 (Nat.le_of_ble_eq_true rfl) wd_295 rfl h8 g10 ?_
  refine Rn_aload_n dX12_passTides_54 rfl rfl rfl ?_
  refine Rn_getfield (ci := 12) (k := 0) dX12_passTides_55 rfl in_12 (Nat.le_of_ble_eq_true rfl) wd_460 rfl h2 g6 ?_
  refine Rn_getfield (ci := 11) (k := 0) dX12_passTides_58 rfl in_11 (Nat.le_of_ble_eq_true rfl) wd_293 rfl h8 g12 ?_
  refine Rn_aload_n dX12_passTides_61 rfl rfl rfl ?_
  refine Rn_getfield (ci := 12) (k := 0) dX12_passTides_62 rfl in_12 (Nat.le_of_ble_eq_true rfl) wd_460 rfl h2 g6 ?_
  exact Rn_callV (ci := 11) (avs := []) (st := [vR t11, vR t9, vR t3, vI x2]) (bc1 := 0) (bs1 := 0) (bc2 := bc) (bs2 := bs) fx_X11_rules dX12_passTides_65 wd_871 wd_872 wd_873 rfl h8 rfl (Nat.le_of_ble_eq_true rfl) (Nat.le_of_ble_eq_true rfl) (by omega) (by omega) (ls1 := [some (vR (some at5))]) rfl k
theorem BX12_passTides_68 {d bc bs : Nat} {h : aH} {n : Nat} {Q : aQ} {r0 q2 q3 q4 : Option Nat} {x1 x2 x3 s0 : Int} {aq1 : Nat} {f1 : List aV} (h2 : h aq1 = cO 2 f1) (k : Rn d 0 0 mX2_passTide 0 [some (vR (some aq1)), some (vR q2), some (vR q3), some (vR q4), none, none, none, none] [] h n (fun v h1 n1 => Rn (d + 1) bc bs mX12_passTides 71 [some (vR r0), some (vI x1), some (vI x2), some (vI x3)] (v.toList ++ [vI s0]) h1 n1 Q)) : Rn (d + 1) (bc) (bs) mX12_passTides 68 [some (vR r0), some (vI x1), some (vI x2), some (vI x3)] [vR q4, vR q3, vR q2, vR (some aq1), vI s0] h n Q := by
  exact Rn_callV (ci := 2) (avs := [vR q2, vR q3, vR q4]) (st := [vI s0]) (bc1 := 0) (bs1 := 0) (bc2 := bc) (bs2 := bs) fx_X2_passTide dX12_passTides_68 wd_879 wd_880 wd_881 rfl h2 rfl (Nat.le_of_ble_eq_true rfl) (Nat.le_of_ble_eq_true rfl) (by omega) (by omega) (ls1 := [some (vR (some aq1)), some (vR q2), some (vR q3), some (vR q4), none, none, none, none]) rfl k
theorem BX12_passTides_71 {d bc bs : Nat} {h : aH} {n : Nat} {Q : aQ} {r0 : Option Nat} {x1 x2 x3 s0 s1 : Int} (b1 : -2147483648 ≤ s0 + s1 ∧ s0 + s1 < 2147483648) (b2 : -2147483648 ≤ x3 + 1 ∧ x3 + 1 < 2147483648) (k : Rn d bc bs mX12_passTides 4 [some (vR r0), some (vI x1), some (vI (s0 + s1)), some (vI (x3 + 1))] [] h n Q) : Rn d (bc) (bs) mX12_passTides 71 [some (vR r0), some (vI x1), some (vI x2), some (vI x3)] [vI s1, vI s0] h n Q := by
  refine Rn_iadd dX12_passTides_71 ?_
  rw [w32_id b1.1 b1.2]
  refine Rn_istore_n dX12_passTides_72 rfl (Nat.le_of_ble_eq_true rfl) rfl rfl ?_
  refine Rn_iinc dX12_passTides_73 rfl (Nat.le_of_ble_eq_true rfl) rfl rfl rfl ?_
  rw [w32_id b2.1 b2.2]
  refine Rn_goto (tgt := 4) dX12_passTides_76 rfl ?_
  exact k
theorem BX12_passTides_79 {d bc bs : Nat} {h : aH} {n : Nat} {Q : aQ} {r0 : Option Nat} {x1 x2 x3 : Int} (k : Q (some (vI x2)) h n) : Rn d (bc) (bs) mX12_passTides 79 [some (vR r0), some (vI x1), some (vI x2), some (vI x3)] [] h n Q := by
  refine Rn_iload_n dX12_passTides_79 rfl rfl ?_
  exact Rn_ireturn rfl dX12_passTides_80 k
theorem dX12_playClause_0 : decode cX12_playClause 0 = .ok (.aload_n 1, 1) := by decide +kernel
theorem dX12_playClause_1 : decode cX12_playClause 1 = .ok (.iload_n 2, 1) := by decide +kernel
theorem dX12_playClause_2 : decode cX12_playClause 2 = .ok (.iconst 1, 1) := by decide +kernel
theorem dX12_playClause_3 : decode cX12_playClause 3 = .ok (.invokevirtual 213, 3) := by decide +kernel
theorem dX12_playClause_6 : decode cX12_playClause 6 = .ok (.istore_n 3, 1) := by decide +kernel
theorem dX12_playClause_7 : decode cX12_playClause 7 = .ok (.aload_n 1, 1) := by decide +kernel
theorem dX12_playClause_8 : decode cX12_playClause 8 = .ok (.iload_n 2, 1) := by decide +kernel
theorem dX12_playClause_9 : decode cX12_playClause 9 = .ok (.iconst 2, 1) := by decide +kernel
theorem dX12_playClause_10 : decode cX12_playClause 10 = .ok (.invokevirtual 213, 3) := by decide +kernel
theorem dX12_playClause_13 : decode cX12_playClause 13 = .ok (.istore 4, 2) := by decide +kernel
theorem dX12_playClause_15 : decode cX12_playClause 15 = .ok (.aload_n 1, 1) := by decide +kernel
theorem dX12_playClause_16 : decode cX12_playClause 16 = .ok (.iload_n 2, 1) := by decide +kernel
theorem dX12_playClause_17 : decode cX12_playClause 17 = .ok (.iconst 3, 1) := by decide +kernel
theorem dX12_playClause_18 : decode cX12_playClause 18 = .ok (.invokevirtual 213, 3) := by decide +kernel
theorem dX12_playClause_21 : decode cX12_playClause 21 = .ok (.istore 5, 2) := by decide +kernel
theorem dX12_playClause_23 : decode cX12_playClause 23 = .ok (.aload_n 1, 1) := by decide +kernel
theorem dX12_playClause_24 : decode cX12_playClause 24 = .ok (.iload_n 2, 1) := by decide +kernel
theorem dX12_playClause_25 : decode cX12_playClause 25 = .ok (.iconst 0, 1) := by decide +kernel
theorem dX12_playClause_26 : decode cX12_playClause 26 = .ok (.invokevirtual 213, 3) := by decide +kernel
theorem dX12_playClause_29 : decode cX12_playClause 29 = .ok (.tableswitch 148 18 23 #[39, 62, 78, 98, 107, 114], 39) := by decide +kernel
theorem dX12_playClause_68 : decode cX12_playClause 68 = .ok (.aload_n 0, 1) := by decide +kernel
theorem dX12_playClause_69 : decode cX12_playClause 69 = .ok (.getfield 10, 3) := by decide +kernel
theorem dX12_playClause_72 : decode cX12_playClause 72 = .ok (.getfield 68, 3) := by decide +kernel
theorem dX12_playClause_75 : decode cX12_playClause 75 = .ok (.iload_n 3, 1) := by decide +kernel
theorem dX12_playClause_76 : decode cX12_playClause 76 = .ok (.iload 4, 2) := by decide +kernel
theorem dX12_playClause_78 : decode cX12_playClause 78 = .ok (.invokevirtual 72, 3) := by decide +kernel
theorem dX12_playClause_81 : decode cX12_playClause 81 = .ok (.iconst (-1), 1) := by decide +kernel
theorem dX12_playClause_82 : decode cX12_playClause 82 = .ok (.if_icmp .eq 7, 3) := by decide +kernel
theorem dX12_playClause_85 : decode cX12_playClause 85 = .ok (.iconst 1, 1) := by decide +kernel
theorem dX12_playClause_86 : decode cX12_playClause 86 = .ok (.goto 4, 3) := by decide +kernel
theorem dX12_playClause_89 : decode cX12_playClause 89 = .ok (.iconst 0, 1) := by decide +kernel
theorem dX12_playClause_90 : decode cX12_playClause 90 = .ok (.ireturn, 1) := by decide +kernel
theorem dX12_playClause_91 : decode cX12_playClause 91 = .ok (.aload_n 0, 1) := by decide +kernel
theorem dX12_playClause_92 : decode cX12_playClause 92 = .ok (.getfield 10, 3) := by decide +kernel
theorem dX12_playClause_95 : decode cX12_playClause 95 = .ok (.getfield 68, 3) := by decide +kernel
theorem dX12_playClause_98 : decode cX12_playClause 98 = .ok (.iload_n 3, 1) := by decide +kernel
theorem dX12_playClause_99 : decode cX12_playClause 99 = .ok (.iload 4, 2) := by decide +kernel
theorem dX12_playClause_101 : decode cX12_playClause 101 = .ok (.iload 5, 2) := by decide +kernel
theorem dX12_playClause_103 : decode cX12_playClause 103 = .ok (.invokevirtual 78, 3) := by decide +kernel
theorem dX12_playClause_106 : decode cX12_playClause 106 = .ok (.ireturn, 1) := by decide +kernel
theorem dX12_playClause_107 : decode cX12_playClause 107 = .ok (.aload_n 0, 1) := by decide +kernel
theorem dX12_playClause_108 : decode cX12_playClause 108 = .ok (.iload_n 3, 1) := by decide +kernel
theorem dX12_playClause_109 : decode cX12_playClause 109 = .ok (.iload 4, 2) := by decide +kernel
theorem dX12_playClause_111 : decode cX12_playClause 111 = .ok (.iload 5, 2) := by decide +kernel
theorem dX12_playClause_113 : decode cX12_playClause 113 = .ok (.iconst 1, 1) := by decide +kernel
theorem dX12_playClause_114 : decode cX12_playClause 114 = .ok (.invokevirtual 116, 3) := by decide +kernel
theorem dX12_playClause_117 : decode cX12_playClause 117 = .ok (.iconst (-1), 1) := by decide +kernel
theorem dX12_playClause_118 : decode cX12_playClause 118 = .ok (.if_icmp .eq 7, 3) := by decide +kernel
theorem dX12_playClause_121 : decode cX12_playClause 121 = .ok (.iconst 1, 1) := by decide +kernel
theorem dX12_playClause_122 : decode cX12_playClause 122 = .ok (.goto 4, 3) := by decide +kernel
theorem dX12_playClause_125 : decode cX12_playClause 125 = .ok (.iconst 0, 1) := by decide +kernel
theorem dX12_playClause_126 : decode cX12_playClause 126 = .ok (.ireturn, 1) := by decide +kernel
theorem dX12_playClause_127 : decode cX12_playClause 127 = .ok (.aload_n 0, 1) := by decide +kernel
theorem dX12_playClause_128 : decode cX12_playClause 128 = .ok (.iload_n 3, 1) := by decide +kernel
theorem dX12_playClause_129 : decode cX12_playClause 129 = .ok (.iload 4, 2) := by decide +kernel
theorem dX12_playClause_131 : decode cX12_playClause 131 = .ok (.iconst 1, 1) := by decide +kernel
theorem dX12_playClause_132 : decode cX12_playClause 132 = .ok (.invokevirtual 120, 3) := by decide +kernel
theorem dX12_playClause_135 : decode cX12_playClause 135 = .ok (.ireturn, 1) := by decide +kernel
theorem dX12_playClause_136 : decode cX12_playClause 136 = .ok (.aload_n 0, 1) := by decide +kernel
theorem dX12_playClause_137 : decode cX12_playClause 137 = .ok (.iload_n 3, 1) := by decide +kernel
theorem dX12_playClause_138 : decode cX12_playClause 138 = .ok (.iconst 1, 1) := by decide +kernel
theorem dX12_playClause_139 : decode cX12_playClause 139 = .ok (.invokevirtual 124, 3) := by decide +kernel
theorem dX12_playClause_142 : decode cX12_playClause 142 = .ok (.ireturn, 1) := by decide +kernel
theorem dX12_playClause_143 : decode cX12_playClause 143 = .ok (.aload_n 0, 1) := by decide +kernel
theorem dX12_playClause_144 : decode cX12_playClause 144 = .ok (.getfield 10, 3) := by decide +kernel
theorem dX12_playClause_147 : decode cX12_playClause 147 = .ok (.getfield 128, 3) := by decide +kernel
theorem dX12_playClause_150 : decode cX12_playClause 150 = .ok (.getfield 131, 3) := by decide +kernel
theorem dX12_playClause_153 : decode cX12_playClause 153 = .ok (.iload_n 3, 1) := by decide +kernel
theorem dX12_playClause_154 : decode cX12_playClause 154 = .ok (.iadd, 1) := by decide +kernel
theorem dX12_playClause_155 : decode cX12_playClause 155 = .ok (.sipush 9999, 3) := by decide +kernel
theorem dX12_playClause_158 : decode cX12_playClause 158 = .ok (.if_icmp .gt 7, 3) := by decide +kernel
theorem dX12_playClause_161 : decode cX12_playClause 161 = .ok (.iconst 1, 1) := by decide +kernel
theorem dX12_playClause_162 : decode cX12_playClause 162 = .ok (.goto 4, 3) := by decide +kernel
theorem dX12_playClause_165 : decode cX12_playClause 165 = .ok (.iconst 0, 1) := by decide +kernel
theorem dX12_playClause_166 : decode cX12_playClause 166 = .ok (.istore 6, 2) := by decide +kernel
theorem dX12_playClause_168 : decode cX12_playClause 168 = .ok (.aload_n 0, 1) := by decide +kernel
theorem dX12_playClause_169 : decode cX12_playClause 169 = .ok (.iload_n 3, 1) := by decide +kernel
theorem dX12_playClause_170 : decode cX12_playClause 170 = .ok (.invokevirtual 134, 3) := by decide +kernel
theorem dX12_playClause_173 : decode cX12_playClause 173 = .ok (.pop, 1) := by decide +kernel
theorem dX12_playClause_174 : decode cX12_playClause 174 = .ok (.iload 6, 2) := by decide +kernel
theorem dX12_playClause_176 : decode cX12_playClause 176 = .ok (.ireturn, 1) := by decide +kernel
theorem dX12_playClause_177 : decode cX12_playClause 177 = .ok (.iconst 1, 1) := by decide +kernel
theorem dX12_playClause_178 : decode cX12_playClause 178 = .ok (.ireturn, 1) := by decide +kernel
theorem BX12_playClause_0 {d bc bs : Nat} {h : aH} {n : Nat} {Q : aQ} {r0 : Option Nat} {ar1 : Nat} {x2 : Int} {l3 l4 l5 l6 : Option aV} {f1 : List aV} (h2 : h ar1 = cO 10 f1) (k : Rn d 0 0 mX10_part 0 [some (vR (some ar1)), some (vI x2), some (vI 1)] [] h n (fun v h1 n1 => Rn (d + 1) bc bs mX12_playClause 6 [some (vR r0), some (vR (some ar1)), some (vI x2), l3, l4, l5, l6] (v.toList ++ []) h1 n1 Q)) : Rn (d + 1) (bc) (bs) mX12_playClause 0 [some (vR r0), some (vR (some ar1)), some (vI x2), l3, l4, l5, l6] [] h n Q := by
  refine Rn_aload_n dX12_playClause_0 rfl rfl rfl ?_
  refine Rn_iload_n dX12_playClause_1 rfl rfl ?_
  refine Rn_iconst dX12_playClause_2 rfl ?_
  exact Rn_callV (ci := 10) (avs := [vI x2, vI 1]) (st := []) (bc1 := 0) (bs1 := 0) (bc2 := bc) (bs2 := bs) fx_X10_part dX12_playClause_3 wd_962 wd_963 wd_964 rfl h2 rfl (Nat.le_of_ble_eq_true rfl) (Nat.le_of_ble_eq_true rfl) (by omega) (by omega) (ls1 := [some (vR (some ar1)), some (vI x2), some (vI 1)]) rfl k
theorem BX12_playClause_6 {d bc bs : Nat} {h : aH} {n : Nat} {Q : aQ} {r0 : Option Nat} {ar1 : Nat} {x2 s0 : Int} {l3 l4 l5 l6 : Option aV} {f1 : List aV} (h2 : h ar1 = cO 10 f1) (k : Rn d 0 0 mX10_part 0 [some (vR (some ar1)), some (vI x2), some (vI 2)] [] h n (fun v h1 n1 => Rn (d + 1) bc bs mX12_playClause 13 [some (vR r0), some (vR (some ar1)), some (vI x2), some (vI s0), l4, l5, l6] (v.toList ++ []) h1 n1 Q)) : Rn (d + 1) (bc) (bs) mX12_playClause 6 [some (vR r0), some (vR (some ar1)), some (vI x2), l3, l4, l5, l6] [vI s0] h n Q := by
  refine Rn_istore_n dX12_playClause_6 rfl (Nat.le_of_ble_eq_true rfl) rfl rfl ?_
  refine Rn_aload_n dX12_playClause_7 rfl rfl rfl ?_
  refine Rn_iload_n dX12_playClause_8 rfl rfl ?_
  refine Rn_iconst dX12_playClause_9 rfl ?_
  exact Rn_callV (ci := 10) (avs := [vI x2, vI 2]) (st := []) (bc1 := 0) (bs1 := 0) (bc2 := bc) (bs2 := bs) fx_X10_part dX12_playClause_10 wd_962 wd_963 wd_964 rfl h2 rfl (Nat.le_of_ble_eq_true rfl) (Nat.le_of_ble_eq_true rfl) (by omega) (by omega) (ls1 := [some (vR (some ar1)), some (vI x2), some (vI 2)]) rfl k
theorem BX12_playClause_13 {d bc bs : Nat} {h : aH} {n : Nat} {Q : aQ} {r0 : Option Nat} {ar1 : Nat} {x2 x3 s0 : Int} {l4 l5 l6 : Option aV} {f1 : List aV} (h2 : h ar1 = cO 10 f1) (k : Rn d 0 0 mX10_part 0 [some (vR (some ar1)), some (vI x2), some (vI 3)] [] h n (fun v h1 n1 => Rn (d + 1) bc bs mX12_playClause 21 [some (vR r0), some (vR (some ar1)), some (vI x2), some (vI x3), some (vI s0), l5, l6] (v.toList ++ []) h1 n1 Q)) : Rn (d + 1) (bc) (bs) mX12_playClause 13 [some (vR r0), some (vR (some ar1)), some (vI x2), some (vI x3), l4, l5, l6] [vI s0] h n Q := by
  refine Rn_istore dX12_playClause_13 (Nat.le_of_ble_eq_true rfl) rfl rfl ?_
  refine Rn_aload_n dX12_playClause_15 rfl rfl rfl ?_
  refine Rn_iload_n dX12_playClause_16 rfl rfl ?_
  refine Rn_iconst dX12_playClause_17 rfl ?_
  exact Rn_callV (ci := 10) (avs := [vI x2, vI 3]) (st := []) (bc1 := 0) (bs1 := 0) (bc2 := bc) (bs2 := bs) fx_X10_part dX12_playClause_18 wd_962 wd_963 wd_964 rfl h2 rfl (Nat.le_of_ble_eq_true rfl) (Nat.le_of_ble_eq_true rfl) (by omega) (by omega) (ls1 := [some (vR (some ar1)), some (vI x2), some (vI 3)]) rfl k
theorem BX12_playClause_21 {d bc bs : Nat} {h : aH} {n : Nat} {Q : aQ} {r0 : Option Nat} {ar1 : Nat} {x2 x3 x4 s0 : Int} {l5 l6 : Option aV} {f1 : List aV} (h2 : h ar1 = cO 10 f1) (k : Rn d 0 0 mX10_part 0 [some (vR (some ar1)), some (vI x2), some (vI 0)] [] h n (fun v h1 n1 => Rn (d + 1) bc bs mX12_playClause 29 [some (vR r0), some (vR (some ar1)), some (vI x2), some (vI x3), some (vI x4), some (vI s0), l6] (v.toList ++ []) h1 n1 Q)) : Rn (d + 1) (bc) (bs) mX12_playClause 21 [some (vR r0), some (vR (some ar1)), some (vI x2), some (vI x3), some (vI x4), l5, l6] [vI s0] h n Q := by
  refine Rn_istore dX12_playClause_21 (Nat.le_of_ble_eq_true rfl) rfl rfl ?_
  refine Rn_aload_n dX12_playClause_23 rfl rfl rfl ?_
  refine Rn_iload_n dX12_playClause_24 rfl rfl ?_
  refine Rn_iconst dX12_playClause_25 rfl ?_
  exact Rn_callV (ci := 10) (avs := [vI x2, vI 0]) (st := []) (bc1 := 0) (bs1 := 0) (bc2 := bc) (bs2 := bs) fx_X10_part dX12_playClause_26 wd_962 wd_963 wd_964 rfl h2 rfl (Nat.le_of_ble_eq_true rfl) (Nat.le_of_ble_eq_true rfl) (by omega) (by omega) (ls1 := [some (vR (some ar1)), some (vI x2), some (vI 0)]) rfl k
theorem BX12_playClause_29 {d bc bs : Nat} {h : aH} {n : Nat} {Q : aQ} {r0 r1 : Option Nat} {x2 x3 x4 x5 s0 : Int} {l6 : Option aV} (kd : (s0 < 18 ∨ 23 < s0) → Rn d bc bs mX12_playClause 177 [some (vR r0), some (vR r1), some (vI x2), some (vI x3), some (vI x4), some (vI x5), l6] [] h n Q) (k18 : s0 = 18 → Rn d bc bs mX12_playClause 68 [some (vR r0), some (vR r1), some (vI x2), some (vI x3), some (vI x4), some (vI x5), l6] [] h n Q) (k19 : s0 = 19 → Rn d bc bs mX12_playClause 91 [some (vR r0), some (vR r1), some (vI x2), some (vI x3), some (vI x4), some (vI x5), l6] [] h n Q) (k20 : s0 = 20 → Rn d bc bs mX12_playClause 107 [some (vR r0), some (vR r1), some (vI x2), some (vI x3), some (vI x4), some (vI x5), l6] [] h n Q) (k21 : s0 = 21 → Rn d bc bs mX12_playClause 127 [some (vR r0), some (vR r1), some (vI x2), some (vI x3), some (vI x4), some (vI x5), l6] [] h n Q) (k22 : s0 = 22 → Rn d bc bs mX12_playClause 136 [some (vR r0), some (vR r1), some (vI x2), some (vI x3), some (vI x4), some (vI x5), l6] [] h n Q) (k23 : s0 = 23 → Rn d bc bs mX12_playClause 143 [some (vR r0), some (vR r1), some (vI x2), some (vI x3), some (vI x4), some (vI x5), l6] [] h n Q) : Rn d (bc) (bs) mX12_playClause 29 [some (vR r0), some (vR r1), some (vI x2), some (vI x3), some (vI x4), some (vI x5), l6] [vI s0] h n Q := by
  by_cases hq : s0 < 18 ∨ 23 < s0
  · exact Rn_tableOut (tgt := 177) dX12_playClause_29 hq rfl (kd hq)
  rcases (show s0 = 18 ∨ s0 = 19 ∨ s0 = 20 ∨ s0 = 21 ∨ s0 = 22 ∨ s0 = 23 by omega) with hz | hz | hz | hz | hz | hz
  · exact Rn_tableIn (tgt := 68) dX12_playClause_29 (by omega) (by omega) (by rw [hz] <;> rfl) rfl (k18 hz)
  · exact Rn_tableIn (tgt := 91) dX12_playClause_29 (by omega) (by omega) (by rw [hz] <;> rfl) rfl (k19 hz)
  · exact Rn_tableIn (tgt := 107) dX12_playClause_29 (by omega) (by omega) (by rw [hz] <;> rfl) rfl (k20 hz)
  · exact Rn_tableIn (tgt := 127) dX12_playClause_29 (by omega) (by omega) (by rw [hz] <;> rfl) rfl (k21 hz)
  · exact Rn_tableIn (tgt := 136) dX12_playClause_29 (by omega) (by omega) (by rw [hz] <;> rfl) rfl (k22 hz)
  · exact Rn_tableIn (tgt := 143) dX12_playClause_29 (by omega) (by omega) (by rw [hz] <;> rfl) rfl (k23 hz)
theorem BX12_playClause_68 {d bc bs : Nat} {h : aH} {n : Nat} {Q : aQ} {ar0 at3 at7 : Nat} {r1 : Option Nat} {x2 x3 x4 x5 : Int} {l6 : Option aV} {f1 f5 f9 : List aV} (h2 : h ar0 = cO 12 f1) (g4 : f1[0]? = some (vR (some at3))) (h6 : h at3 = cO 11 f5) (g8 : f5[0]? = some (vR (some at7))) (h10 : h at7 = cO 7 f9) (k : Rn d 0 0 mX7_addPerson 0 [some (vR (some at7)), some (vI x3), some (vI x4)] [] h n (fun v h1 n1 => Rn (d + 1) bc bs mX12_playClause 81 [some (vR (some ar0)), some (vR r1), some (vI x2), some (vI x3), some (vI x4), some (vI x5), l6] (v.toList ++ []) h1 n1 Q)) : Rn (d + 1) (bc) (bs) mX12_playClause 68 [some (vR (some ar0)), some (vR r1), some (vI x2), some (vI x3), some (vI x4), some (vI x5), l6] [] h n Q := by
  refine Rn_aload_n dX12_playClause_68 rfl rfl rfl ?_
  refine Rn_getfield (ci := 12) (k := 0) dX12_playClause_69 rfl in_12 (Nat.le_of_ble_eq_true rfl) wd_460 rfl h2 g4 ?_
  refine Rn_getfield (ci := 11) (k := 0) dX12_playClause_72 rfl in_11 (Nat.le_of_ble_eq_true rfl) wd_293 rfl h6 g8 ?_
  refine Rn_iload_n dX12_playClause_75 rfl rfl ?_
  refine Rn_iload dX12_playClause_76 rfl ?_
  exact Rn_callV (ci := 7) (avs := [vI x3, vI x4]) (st := []) (bc1 := 0) (bs1 := 0) (bc2 := bc) (bs2 := bs) fx_X7_addPerson dX12_playClause_78 wd_495 wd_496 wd_497 rfl h10 rfl (Nat.le_of_ble_eq_true rfl) (Nat.le_of_ble_eq_true rfl) (by omega) (by omega) (ls1 := [some (vR (some at7)), some (vI x3), some (vI x4)]) rfl k
theorem BX12_playClause_81 {d bc bs : Nat} {h : aH} {n : Nat} {Q : aQ} {r0 r1 : Option Nat} {x2 x3 x4 x5 s0 : Int} {l6 : Option aV} (kt : s0 = (-1) → Rn d bc bs mX12_playClause 89 [some (vR r0), some (vR r1), some (vI x2), some (vI x3), some (vI x4), some (vI x5), l6] [] h n Q) (kf : s0 ≠ (-1) → Rn d bc bs mX12_playClause 85 [some (vR r0), some (vR r1), some (vI x2), some (vI x3), some (vI x4), some (vI x5), l6] [] h n Q) : Rn d (bc) (bs) mX12_playClause 81 [some (vR r0), some (vR r1), some (vI x2), some (vI x3), some (vI x4), some (vI x5), l6] [vI s0] h n Q := by
  refine Rn_iconst dX12_playClause_81 rfl ?_
  refine Rn_icmpeq (tgt := 89) dX12_playClause_82 rfl ?_ ?_
  · exact kt
  · exact kf
theorem BX12_playClause_85 {d bc bs : Nat} {h : aH} {n : Nat} {Q : aQ} {r0 r1 : Option Nat} {x2 x3 x4 x5 : Int} {l6 : Option aV} (k : Q (some (vI 1)) h n) : Rn d (bc) (bs) mX12_playClause 85 [some (vR r0), some (vR r1), some (vI x2), some (vI x3), some (vI x4), some (vI x5), l6] [] h n Q := by
  refine Rn_iconst dX12_playClause_85 rfl ?_
  refine Rn_goto (tgt := 90) dX12_playClause_86 rfl ?_
  exact Rn_zreturn rfl dX12_playClause_90 (by decide) k
theorem BX12_playClause_89 {d bc bs : Nat} {h : aH} {n : Nat} {Q : aQ} {r0 r1 : Option Nat} {x2 x3 x4 x5 : Int} {l6 : Option aV} (k : Q (some (vI 0)) h n) : Rn d (bc) (bs) mX12_playClause 89 [some (vR r0), some (vR r1), some (vI x2), some (vI x3), some (vI x4), some (vI x5), l6] [] h n Q := by
  refine Rn_iconst dX12_playClause_89 rfl ?_
  exact Rn_zreturn rfl dX12_playClause_90 (by decide) k
theorem BX12_playClause_91 {d bc bs : Nat} {h : aH} {n : Nat} {Q : aQ} {ar0 at3 at7 : Nat} {r1 : Option Nat} {x2 x3 x4 x5 : Int} {l6 : Option aV} {f1 f5 f9 : List aV} (h2 : h ar0 = cO 12 f1) (g4 : f1[0]? = some (vR (some at3))) (h6 : h at3 = cO 11 f5) (g8 : f5[0]? = some (vR (some at7))) (h10 : h at7 = cO 7 f9) (k : Rn d 0 0 mX7_tellCurrent 0 [some (vR (some at7)), some (vI x3), some (vI x4), some (vI x5)] [] h n (fun v h1 n1 => Rn (d + 1) bc bs mX12_playClause 106 [some (vR (some ar0)), some (vR r1), some (vI x2), some (vI x3), some (vI x4), some (vI x5), l6] (v.toList ++ []) h1 n1 Q)) : Rn (d + 1) (bc) (bs) mX12_playClause 91 [some (vR (some ar0)), some (vR r1), some (vI x2), some (vI x3), some (vI x4), some (vI x5), l6] [] h n Q := by
  refine Rn_aload_n dX12_playClause_91 rfl rfl rfl ?_
  refine Rn_getfield (ci := 12) (k := 0) dX12_playClause_92 rfl in_12 (Nat.le_of_ble_eq_true rfl) wd_460 rfl h2 g4 ?_
  refine Rn_getfield (ci := 11) (k := 0) dX12_playClause_95 rfl in_11 (Nat.le_of_ble_eq_true rfl) wd_293 rfl h6 g8 ?_
  refine Rn_iload_n dX12_playClause_98 rfl rfl ?_
  refine Rn_iload dX12_playClause_99 rfl ?_
  refine Rn_iload dX12_playClause_101 rfl ?_
  exact Rn_callV (ci := 7) (avs := [vI x3, vI x4, vI x5]) (st := []) (bc1 := 0) (bs1 := 0) (bc2 := bc) (bs2 := bs) fx_X7_tellCurrent dX12_playClause_103 wd_510 wd_511 wd_512 rfl h10 rfl (Nat.le_of_ble_eq_true rfl) (Nat.le_of_ble_eq_true rfl) (by omega) (by omega) (ls1 := [some (vR (some at7)), some (vI x3), some (vI x4), some (vI x5)]) rfl k
theorem BX12_playClause_106 {d bc bs : Nat} {h : aH} {n : Nat} {Q : aQ} {r0 r1 : Option Nat} {x2 x3 x4 x5 s0 : Int} {l6 : Option aV} (b1 : s0 = 0 ∨ s0 = 1) (k : Q (some (vI s0)) h n) : Rn d (bc) (bs) mX12_playClause 106 [some (vR r0), some (vR r1), some (vI x2), some (vI x3), some (vI x4), some (vI x5), l6] [vI s0] h n Q := by
  exact Rn_zreturn rfl dX12_playClause_106 b1 k
theorem BX12_playClause_107 {d bc bs : Nat} {h : aH} {n : Nat} {Q : aQ} {ar0 : Nat} {r1 : Option Nat} {x2 x3 x4 x5 : Int} {l6 : Option aV} {f1 : List aV} (h2 : h ar0 = cO 12 f1) (k : Rn d 0 0 mX12_tossBottle 0 [some (vR (some ar0)), some (vI x3), some (vI x4), some (vI x5), some (vI 1), none] [] h n (fun v h1 n1 => Rn (d + 1) bc bs mX12_playClause 117 [some (vR (some ar0)), some (vR r1), some (vI x2), some (vI x3), some (vI x4), some (vI x5), l6] (v.toList ++ []) h1 n1 Q)) : Rn (d + 1) (bc) (bs) mX12_playClause 107 [some (vR (some ar0)), some (vR r1), some (vI x2), some (vI x3), some (vI x4), some (vI x5), l6] [] h n Q := by
  refine Rn_aload_n dX12_playClause_107 rfl rfl rfl ?_
  refine Rn_iload_n dX12_playClause_108 rfl rfl ?_
  refine Rn_iload dX12_playClause_109 rfl ?_
  refine Rn_iload dX12_playClause_111 rfl ?_
  refine Rn_iconst dX12_playClause_113 rfl ?_
  exact Rn_callV (ci := 12) (avs := [vI x3, vI x4, vI x5, vI 1]) (st := []) (bc1 := 0) (bs1 := 0) (bc2 := bc) (bs2 := bs) fx_X12_tossBottle dX12_playClause_114 wd_777 wd_779 wd_27 rfl h2 rfl (Nat.le_of_ble_eq_true rfl) (Nat.le_of_ble_eq_true rfl) (by omega) (by omega) (ls1 := [some (vR (some ar0)), some (vI x3), some (vI x4), some (vI x5), some (vI 1), none]) rfl k
theorem BX12_playClause_117 {d bc bs : Nat} {h : aH} {n : Nat} {Q : aQ} {r0 r1 : Option Nat} {x2 x3 x4 x5 s0 : Int} {l6 : Option aV} (kt : s0 = (-1) → Rn d bc bs mX12_playClause 125 [some (vR r0), some (vR r1), some (vI x2), some (vI x3), some (vI x4), some (vI x5), l6] [] h n Q) (kf : s0 ≠ (-1) → Rn d bc bs mX12_playClause 121 [some (vR r0), some (vR r1), some (vI x2), some (vI x3), some (vI x4), some (vI x5), l6] [] h n Q) : Rn d (bc) (bs) mX12_playClause 117 [some (vR r0), some (vR r1), some (vI x2), some (vI x3), some (vI x4), some (vI x5), l6] [vI s0] h n Q := by
  refine Rn_iconst dX12_playClause_117 rfl ?_
  refine Rn_icmpeq (tgt := 125) dX12_playClause_118 rfl ?_ ?_
  · exact kt
  · exact kf
theorem BX12_playClause_121 {d bc bs : Nat} {h : aH} {n : Nat} {Q : aQ} {r0 r1 : Option Nat} {x2 x3 x4 x5 : Int} {l6 : Option aV} (k : Q (some (vI 1)) h n) : Rn d (bc) (bs) mX12_playClause 121 [some (vR r0), some (vR r1), some (vI x2), some (vI x3), some (vI x4), some (vI x5), l6] [] h n Q := by
  refine Rn_iconst dX12_playClause_121 rfl ?_
  refine Rn_goto (tgt := 126) dX12_playClause_122 rfl ?_
  exact Rn_zreturn rfl dX12_playClause_126 (by decide) k
theorem BX12_playClause_125 {d bc bs : Nat} {h : aH} {n : Nat} {Q : aQ} {r0 r1 : Option Nat} {x2 x3 x4 x5 : Int} {l6 : Option aV} (k : Q (some (vI 0)) h n) : Rn d (bc) (bs) mX12_playClause 125 [some (vR r0), some (vR r1), some (vI x2), some (vI x3), some (vI x4), some (vI x5), l6] [] h n Q := by
  refine Rn_iconst dX12_playClause_125 rfl ?_
  exact Rn_zreturn rfl dX12_playClause_126 (by decide) k
theorem BX12_playClause_127 {d bc bs : Nat} {h : aH} {n : Nat} {Q : aQ} {ar0 : Nat} {r1 : Option Nat} {x2 x3 x4 x5 : Int} {l6 : Option aV} {f1 : List aV} (h2 : h ar0 = cO 12 f1) (k : Rn d 0 0 mX12_fishBottle 0 [some (vR (some ar0)), some (vI x3), some (vI x4), some (vI 1), none, none] [] h n (fun v h1 n1 => Rn (d + 1) bc bs mX12_playClause 135 [some (vR (some ar0)), some (vR r1), some (vI x2), some (vI x3), some (vI x4), some (vI x5), l6] (v.toList ++ []) h1 n1 Q)) : Rn (d + 1) (bc) (bs) mX12_playClause 127 [some (vR (some ar0)), some (vR r1), some (vI x2), some (vI x3), some (vI x4), some (vI x5), l6] [] h n Q := by
  refine Rn_aload_n dX12_playClause_127 rfl rfl rfl ?_
  refine Rn_iload_n dX12_playClause_128 rfl rfl ?_
  refine Rn_iload dX12_playClause_129 rfl ?_
  refine Rn_iconst dX12_playClause_131 rfl ?_
  exact Rn_callV (ci := 12) (avs := [vI x3, vI x4, vI 1]) (st := []) (bc1 := 0) (bs1 := 0) (bc2 := bc) (bs2 := bs) fx_X12_fishBottle dX12_playClause_132 wd_827 wd_829 wd_30 rfl h2 rfl (Nat.le_of_ble_eq_true rfl) (Nat.le_of_ble_eq_true rfl) (by omega) (by omega) (ls1 := [some (vR (some ar0)), some (vI x3), some (vI x4), some (vI 1), none, none]) rfl k
theorem BX12_playClause_135 {d bc bs : Nat} {h : aH} {n : Nat} {Q : aQ} {r0 r1 : Option Nat} {x2 x3 x4 x5 s0 : Int} {l6 : Option aV} (b1 : s0 = 0 ∨ s0 = 1) (k : Q (some (vI s0)) h n) : Rn d (bc) (bs) mX12_playClause 135 [some (vR r0), some (vR r1), some (vI x2), some (vI x3), some (vI x4), some (vI x5), l6] [vI s0] h n Q := by
  exact Rn_zreturn rfl dX12_playClause_135 b1 k
theorem BX12_playClause_136 {d bc bs : Nat} {h : aH} {n : Nat} {Q : aQ} {ar0 : Nat} {r1 : Option Nat} {x2 x3 x4 x5 : Int} {l6 : Option aV} {f1 : List aV} (h2 : h ar0 = cO 12 f1) (k : Rn d 0 0 mX12_tossAgain 0 [some (vR (some ar0)), some (vI x3), some (vI 1), none] [] h n (fun v h1 n1 => Rn (d + 1) bc bs mX12_playClause 142 [some (vR (some ar0)), some (vR r1), some (vI x2), some (vI x3), some (vI x4), some (vI x5), l6] (v.toList ++ []) h1 n1 Q)) : Rn (d + 1) (bc) (bs) mX12_playClause 136 [some (vR (some ar0)), some (vR r1), some (vI x2), some (vI x3), some (vI x4), some (vI x5), l6] [] h n Q := by
  refine Rn_aload_n dX12_playClause_136 rfl rfl rfl ?_
  refine Rn_iload_n dX12_playClause_137 rfl rfl ?_
  refine Rn_iconst dX12_playClause_138 rfl ?_
  exact Rn_callV (ci := 12) (avs := [vI x3, vI 1]) (st := []) (bc1 := 0) (bs1 := 0) (bc2 := bc) (bs2 := bs) fx_X12_tossAgain dX12_playClause_139 wd_858 wd_860 wd_31 rfl h2 rfl (Nat.le_of_ble_eq_true rfl) (Nat.le_of_ble_eq_true rfl) (by omega) (by omega) (ls1 := [some (vR (some ar0)), some (vI x3), some (vI 1), none]) rfl k
theorem BX12_playClause_142 {d bc bs : Nat} {h : aH} {n : Nat} {Q : aQ} {r0 r1 : Option Nat} {x2 x3 x4 x5 s0 : Int} {l6 : Option aV} (b1 : s0 = 0 ∨ s0 = 1) (k : Q (some (vI s0)) h n) : Rn d (bc) (bs) mX12_playClause 142 [some (vR r0), some (vR r1), some (vI x2), some (vI x3), some (vI x4), some (vI x5), l6] [vI s0] h n Q := by
  exact Rn_zreturn rfl dX12_playClause_142 b1 k
theorem BX12_playClause_143 {d bc bs : Nat} {h : aH} {n : Nat} {Q : aQ} {ar0 at3 at7 : Nat} {r1 : Option Nat} {x2 x3 x4 x5 v11 : Int} {l6 : Option aV} {f1 f5 f9 : List aV} (h2 : h ar0 = cO 12 f1) (g4 : f1[0]? = some (vR (some at3))) (h6 : h at3 = cO 11 f5) (g8 : f5[1]? = some (vR (some at7))) (h10 : h at7 = cO 6 f9) (g12 : f9[3]? = some (vI v11)) (b13 : -2147483648 ≤ v11 + x3 ∧ v11 + x3 < 2147483648) (kt : 9999 < (v11 + x3) → Rn d bc bs mX12_playClause 165 [some (vR (some ar0)), some (vR r1), some (vI x2), some (vI x3), some (vI x4), some (vI x5), l6] [] h n Q) (kf : (v11 + x3) ≤ 9999 → Rn d bc bs mX12_playClause 161 [some (vR (some ar0)), some (vR r1), some (vI x2), some (vI x3), some (vI x4), some (vI x5), l6] [] h n Q) : Rn d (bc) (bs) mX12_playClause 143 [some (vR (some ar0)), some (vR r1), some (vI x2), some (vI x3), some (vI x4), some (vI x5), l6] [] h n Q := by
  refine Rn_aload_n dX12_playClause_143 rfl rfl rfl ?_
  refine Rn_getfield (ci := 12) (k := 0) dX12_playClause_144 rfl in_12 (Nat.le_of_ble_eq_true rfl) wd_460 rfl h2 g4 ?_
  refine Rn_getfield (ci := 11) (k := 1) dX12_playClause_147 rfl in_11 (Nat.le_of_ble_eq_true rfl) wd_295 rfl h6 g8 ?_
  refine Rn_getfield (ci := 6) (k := 3) dX12_playClause_150 rfl in_6 (Nat.le_of_ble_eq_true rfl) wd_210 rfl h10 g12 ?_
  refine Rn_iload_n dX12_playClause_153 rfl rfl ?_
  refine Rn_iadd dX12_playClause_154 ?_
  rw [w32_id b13.1 b13.2]
  refine Rn_sipush dX12_playClause_155 rfl ?_
  refine Rn_icmpgt (tgt := 165) dX12_playClause_158 rfl ?_ ?_
  · exact kt
  · exact kf
theorem BX12_playClause_161 {d bc bs : Nat} {h : aH} {n : Nat} {Q : aQ} {ar0 : Nat} {r1 : Option Nat} {x2 x3 x4 x5 : Int} {l6 : Option aV} {f1 : List aV} (h2 : h ar0 = cO 12 f1) (k : Rn d 0 0 mX12_passTides 0 [some (vR (some ar0)), some (vI x3), none, none] [] h n (fun v h1 n1 => Rn (d + 1) bc bs mX12_playClause 173 [some (vR (some ar0)), some (vR r1), some (vI x2), some (vI x3), some (vI x4), some (vI x5), some (vI 1)] (v.toList ++ []) h1 n1 Q)) : Rn (d + 1) (bc) (bs) mX12_playClause 161 [some (vR (some ar0)), some (vR r1), some (vI x2), some (vI x3), some (vI x4), some (vI x5), l6] [] h n Q := by
  refine Rn_iconst dX12_playClause_161 rfl ?_
  refine Rn_goto (tgt := 166) dX12_playClause_162 rfl ?_
  refine Rn_istore dX12_playClause_166 (Nat.le_of_ble_eq_true rfl) rfl rfl ?_
  refine Rn_aload_n dX12_playClause_168 rfl rfl rfl ?_
  refine Rn_iload_n dX12_playClause_169 rfl rfl ?_
  exact Rn_callV (ci := 12) (avs := [vI x3]) (st := []) (bc1 := 0) (bs1 := 0) (bc2 := bc) (bs2 := bs) fx_X12_passTides dX12_playClause_170 wd_867 wd_869 wd_32 rfl h2 rfl (Nat.le_of_ble_eq_true rfl) (Nat.le_of_ble_eq_true rfl) (by omega) (by omega) (ls1 := [some (vR (some ar0)), some (vI x3), none, none]) rfl k
theorem BX12_playClause_165 {d bc bs : Nat} {h : aH} {n : Nat} {Q : aQ} {ar0 : Nat} {r1 : Option Nat} {x2 x3 x4 x5 : Int} {l6 : Option aV} {f1 : List aV} (h2 : h ar0 = cO 12 f1) (k : Rn d 0 0 mX12_passTides 0 [some (vR (some ar0)), some (vI x3), none, none] [] h n (fun v h1 n1 => Rn (d + 1) bc bs mX12_playClause 173 [some (vR (some ar0)), some (vR r1), some (vI x2), some (vI x3), some (vI x4), some (vI x5), some (vI 0)] (v.toList ++ []) h1 n1 Q)) : Rn (d + 1) (bc) (bs) mX12_playClause 165 [some (vR (some ar0)), some (vR r1), some (vI x2), some (vI x3), some (vI x4), some (vI x5), l6] [] h n Q := by
  refine Rn_iconst dX12_playClause_165 rfl ?_
  refine Rn_istore dX12_playClause_166 (Nat.le_of_ble_eq_true rfl) rfl rfl ?_
  refine Rn_aload_n dX12_playClause_168 rfl rfl rfl ?_
  refine Rn_iload_n dX12_playClause_169 rfl rfl ?_
  exact Rn_callV (ci := 12) (avs := [vI x3]) (st := []) (bc1 := 0) (bs1 := 0) (bc2 := bc) (bs2 := bs) fx_X12_passTides dX12_playClause_170 wd_867 wd_869 wd_32 rfl h2 rfl (Nat.le_of_ble_eq_true rfl) (Nat.le_of_ble_eq_true rfl) (by omega) (by omega) (ls1 := [some (vR (some ar0)), some (vI x3), none, none]) rfl k
theorem BX12_playClause_173 {d bc bs : Nat} {h : aH} {n : Nat} {Q : aQ} {r0 r1 : Option Nat} {x2 x3 x4 x5 x6 s0 : Int} (b1 : x6 = 0 ∨ x6 = 1) (k : Q (some (vI x6)) h n) : Rn d (bc) (bs) mX12_playClause 173 [some (vR r0), some (vR r1), some (vI x2), some (vI x3), some (vI x4), some (vI x5), some (vI x6)] [vI s0] h n Q := by
  refine Rn_pop dX12_playClause_173 rfl ?_
  refine Rn_iload dX12_playClause_174 rfl ?_
  exact Rn_zreturn rfl dX12_playClause_176 b1 k
theorem BX12_playClause_177 {d bc bs : Nat} {h : aH} {n : Nat} {Q : aQ} {r0 r1 : Option Nat} {x2 x3 x4 x5 : Int} {l6 : Option aV} (k : Q (some (vI 1)) h n) : Rn d (bc) (bs) mX12_playClause 177 [some (vR r0), some (vR r1), some (vI x2), some (vI x3), some (vI x4), some (vI x5), l6] [] h n Q := by
  refine Rn_iconst dX12_playClause_177 rfl ?_
  exact Rn_zreturn rfl dX12_playClause_178 (by decide) k
theorem dX12_liveYear_0 : decode cX12_liveYear 0 = .ok (.iload_n 1, 1) := by decide +kernel
theorem dX12_liveYear_1 : decode cX12_liveYear 1 = .ok (.bipush 6, 2) := by decide +kernel
theorem dX12_liveYear_3 : decode cX12_liveYear 3 = .ok (.irem, 1) := by decide +kernel
theorem dX12_liveYear_4 : decode cX12_liveYear 4 = .ok (.istore_n 2, 1) := by decide +kernel
theorem dX12_liveYear_5 : decode cX12_liveYear 5 = .ok (.aload_n 0, 1) := by decide +kernel
theorem dX12_liveYear_6 : decode cX12_liveYear 6 = .ok (.getfield 10, 3) := by decide +kernel
theorem dX12_liveYear_9 : decode cX12_liveYear 9 = .ok (.getfield 68, 3) := by decide +kernel
theorem dX12_liveYear_12 : decode cX12_liveYear 12 = .ok (.getfield 216, 3) := by decide +kernel
theorem dX12_liveYear_15 : decode cX12_liveYear 15 = .ok (.istore_n 3, 1) := by decide +kernel
theorem dX12_liveYear_16 : decode cX12_liveYear 16 = .ok (.aload_n 0, 1) := by decide +kernel
theorem dX12_liveYear_17 : decode cX12_liveYear 17 = .ok (.getfield 10, 3) := by decide +kernel
theorem dX12_liveYear_20 : decode cX12_liveYear 20 = .ok (.getfield 128, 3) := by decide +kernel
theorem dX12_liveYear_23 : decode cX12_liveYear 23 = .ok (.getfield 178, 3) := by decide +kernel
theorem dX12_liveYear_26 : decode cX12_liveYear 26 = .ok (.istore 4, 2) := by decide +kernel
theorem dX12_liveYear_28 : decode cX12_liveYear 28 = .ok (.iload_n 2, 1) := by decide +kernel
theorem dX12_liveYear_29 : decode cX12_liveYear 29 = .ok (.iconst 4, 1) := by decide +kernel
theorem dX12_liveYear_30 : decode cX12_liveYear 30 = .ok (.if_icmp .lt 51, 3) := by decide +kernel
theorem dX12_liveYear_33 : decode cX12_liveYear 33 = .ok (.aload_n 0, 1) := by decide +kernel
theorem dX12_liveYear_34 : decode cX12_liveYear 34 = .ok (.getfield 10, 3) := by decide +kernel
theorem dX12_liveYear_37 : decode cX12_liveYear 37 = .ok (.getfield 128, 3) := by decide +kernel
theorem dX12_liveYear_40 : decode cX12_liveYear 40 = .ok (.getfield 131, 3) := by decide +kernel
theorem dX12_liveYear_43 : decode cX12_liveYear 43 = .ok (.sipush 9999, 3) := by decide +kernel
theorem dX12_liveYear_46 : decode cX12_liveYear 46 = .ok (.if_icmp .ge 116, 3) := by decide +kernel
theorem dX12_liveYear_49 : decode cX12_liveYear 49 = .ok (.aload_n 0, 1) := by decide +kernel
theorem dX12_liveYear_50 : decode cX12_liveYear 50 = .ok (.getfield 36, 3) := by decide +kernel
theorem dX12_liveYear_53 : decode cX12_liveYear 53 = .ok (.aload_n 0, 1) := by decide +kernel
theorem dX12_liveYear_54 : decode cX12_liveYear 54 = .ok (.getfield 10, 3) := by decide +kernel
theorem dX12_liveYear_57 : decode cX12_liveYear 57 = .ok (.getfield 128, 3) := by decide +kernel
theorem dX12_liveYear_60 : decode cX12_liveYear 60 = .ok (.aload_n 0, 1) := by decide +kernel
theorem dX12_liveYear_61 : decode cX12_liveYear 61 = .ok (.getfield 10, 3) := by decide +kernel
theorem dX12_liveYear_64 : decode cX12_liveYear 64 = .ok (.getfield 68, 3) := by decide +kernel
theorem dX12_liveYear_67 : decode cX12_liveYear 67 = .ok (.aload_n 0, 1) := by decide +kernel
theorem dX12_liveYear_68 : decode cX12_liveYear 68 = .ok (.getfield 10, 3) := by decide +kernel
theorem dX12_liveYear_71 : decode cX12_liveYear 71 = .ok (.invokevirtual 205, 3) := by decide +kernel
theorem dX12_liveYear_74 : decode cX12_liveYear 74 = .ok (.invokevirtual 209, 3) := by decide +kernel
theorem dX12_liveYear_77 : decode cX12_liveYear 77 = .ok (.pop, 1) := by decide +kernel
theorem dX12_liveYear_78 : decode cX12_liveYear 78 = .ok (.goto 84, 3) := by decide +kernel
theorem dX12_liveYear_81 : decode cX12_liveYear 81 = .ok (.iload_n 2, 1) := by decide +kernel
theorem dX12_liveYear_82 : decode cX12_liveYear 82 = .ok (.iconst 3, 1) := by decide +kernel
theorem dX12_liveYear_83 : decode cX12_liveYear 83 = .ok (.if_icmp .ne 21, 3) := by decide +kernel
theorem dX12_liveYear_86 : decode cX12_liveYear 86 = .ok (.iload 4, 2) := by decide +kernel
theorem dX12_liveYear_88 : decode cX12_liveYear 88 = .ok (.ifCond .le 74, 3) := by decide +kernel
theorem dX12_liveYear_91 : decode cX12_liveYear 91 = .ok (.aload_n 0, 1) := by decide +kernel
theorem dX12_liveYear_92 : decode cX12_liveYear 92 = .ok (.iload_n 1, 1) := by decide +kernel
theorem dX12_liveYear_93 : decode cX12_liveYear 93 = .ok (.iload 4, 2) := by decide +kernel
theorem dX12_liveYear_95 : decode cX12_liveYear 95 = .ok (.irem, 1) := by decide +kernel
theorem dX12_liveYear_96 : decode cX12_liveYear 96 = .ok (.iconst 0, 1) := by decide +kernel
theorem dX12_liveYear_97 : decode cX12_liveYear 97 = .ok (.invokevirtual 124, 3) := by decide +kernel
theorem dX12_liveYear_100 : decode cX12_liveYear 100 = .ok (.pop, 1) := by decide +kernel
theorem dX12_liveYear_101 : decode cX12_liveYear 101 = .ok (.goto 61, 3) := by decide +kernel
theorem dX12_liveYear_104 : decode cX12_liveYear 104 = .ok (.iload_n 2, 1) := by decide +kernel
theorem dX12_liveYear_105 : decode cX12_liveYear 105 = .ok (.iconst 2, 1) := by decide +kernel
theorem dX12_liveYear_106 : decode cX12_liveYear 106 = .ok (.if_icmp .ne 31, 3) := by decide +kernel
theorem dX12_liveYear_109 : decode cX12_liveYear 109 = .ok (.iload 4, 2) := by decide +kernel
theorem dX12_liveYear_111 : decode cX12_liveYear 111 = .ok (.ifCond .le 51, 3) := by decide +kernel
theorem dX12_liveYear_114 : decode cX12_liveYear 114 = .ok (.iload_n 3, 1) := by decide +kernel
theorem dX12_liveYear_115 : decode cX12_liveYear 115 = .ok (.ifCond .le 47, 3) := by decide +kernel
theorem dX12_liveYear_118 : decode cX12_liveYear 118 = .ok (.aload_n 0, 1) := by decide +kernel
theorem dX12_liveYear_119 : decode cX12_liveYear 119 = .ok (.iload_n 1, 1) := by decide +kernel
theorem dX12_liveYear_120 : decode cX12_liveYear 120 = .ok (.iload 4, 2) := by decide +kernel
theorem dX12_liveYear_122 : decode cX12_liveYear 122 = .ok (.irem, 1) := by decide +kernel
theorem dX12_liveYear_123 : decode cX12_liveYear 123 = .ok (.iload_n 1, 1) := by decide +kernel
theorem dX12_liveYear_124 : decode cX12_liveYear 124 = .ok (.bipush 6, 2) := by decide +kernel
theorem dX12_liveYear_126 : decode cX12_liveYear 126 = .ok (.idiv, 1) := by decide +kernel
theorem dX12_liveYear_127 : decode cX12_liveYear 127 = .ok (.iload_n 3, 1) := by decide +kernel
theorem dX12_liveYear_128 : decode cX12_liveYear 128 = .ok (.irem, 1) := by decide +kernel
theorem dX12_liveYear_129 : decode cX12_liveYear 129 = .ok (.iconst 0, 1) := by decide +kernel
theorem dX12_liveYear_130 : decode cX12_liveYear 130 = .ok (.invokevirtual 120, 3) := by decide +kernel
theorem dX12_liveYear_133 : decode cX12_liveYear 133 = .ok (.pop, 1) := by decide +kernel
theorem dX12_liveYear_134 : decode cX12_liveYear 134 = .ok (.goto 28, 3) := by decide +kernel
theorem dX12_liveYear_137 : decode cX12_liveYear 137 = .ok (.iload_n 3, 1) := by decide +kernel
theorem dX12_liveYear_138 : decode cX12_liveYear 138 = .ok (.ifCond .le 24, 3) := by decide +kernel
theorem dX12_liveYear_141 : decode cX12_liveYear 141 = .ok (.aload_n 0, 1) := by decide +kernel
theorem dX12_liveYear_142 : decode cX12_liveYear 142 = .ok (.iload_n 1, 1) := by decide +kernel
theorem dX12_liveYear_143 : decode cX12_liveYear 143 = .ok (.iload_n 3, 1) := by decide +kernel
theorem dX12_liveYear_144 : decode cX12_liveYear 144 = .ok (.irem, 1) := by decide +kernel
theorem dX12_liveYear_145 : decode cX12_liveYear 145 = .ok (.iload_n 1, 1) := by decide +kernel
theorem dX12_liveYear_146 : decode cX12_liveYear 146 = .ok (.bipush 6, 2) := by decide +kernel
theorem dX12_liveYear_148 : decode cX12_liveYear 148 = .ok (.idiv, 1) := by decide +kernel
theorem dX12_liveYear_149 : decode cX12_liveYear 149 = .ok (.iload_n 3, 1) := by decide +kernel
theorem dX12_liveYear_150 : decode cX12_liveYear 150 = .ok (.irem, 1) := by decide +kernel
theorem dX12_liveYear_151 : decode cX12_liveYear 151 = .ok (.iconst 1, 1) := by decide +kernel
theorem dX12_liveYear_152 : decode cX12_liveYear 152 = .ok (.iload_n 1, 1) := by decide +kernel
theorem dX12_liveYear_153 : decode cX12_liveYear 153 = .ok (.bipush 30, 2) := by decide +kernel
theorem dX12_liveYear_155 : decode cX12_liveYear 155 = .ok (.irem, 1) := by decide +kernel
theorem dX12_liveYear_156 : decode cX12_liveYear 156 = .ok (.iadd, 1) := by decide +kernel
theorem dX12_liveYear_157 : decode cX12_liveYear 157 = .ok (.iconst 0, 1) := by decide +kernel
theorem dX12_liveYear_158 : decode cX12_liveYear 158 = .ok (.invokevirtual 116, 3) := by decide +kernel
theorem dX12_liveYear_161 : decode cX12_liveYear 161 = .ok (.pop, 1) := by decide +kernel
theorem dX12_liveYear_162 : decode cX12_liveYear 162 = .ok (.return_, 1) := by decide +kernel
theorem BX12_liveYear_0 {d bc bs : Nat} {h : aH} {n : Nat} {Q : aQ} {ar0 at4 at8 at14 : Nat} {x1 v12 v18 : Int} {l2 l3 l4 : Option aV} {f2 f6 f10 f16 : List aV} (b1 : 0 ≤ x1) (h3 : h ar0 = cO 12 f2) (g5 : f2[0]? = some (vR (some at4))) (h7 : h at4 = cO 11 f6) (g9 : f6[0]? = some (vR (some at8))) (h11 : h at8 = cO 7 f10) (g13 : f10[3]? = some (vI v12)) (g15 : f6[1]? = some (vR (some at14))) (h17 : h at14 = cO 6 f16) (g19 : f16[2]? = some (vI v18)) (kt : (x1 % 6) < 4 → Rn d bc bs mX12_liveYear 81 [some (vR (some ar0)), some (vI x1), some (vI (x1 % 6)), some (vI v12), some (vI v18)] [] h n Q) (kf : 4 ≤ (x1 % 6) → Rn d bc bs mX12_liveYear 33 [some (vR (some ar0)), some (vI x1), some (vI (x1 % 6)), some (vI v12), some (vI v18)] [] h n Q) : Rn d (bc) (bs) mX12_liveYear 0 [some (vR (some ar0)), some (vI x1), l2, l3, l4] [] h n Q := by
  refine Rn_iload_n dX12_liveYear_0 rfl rfl ?_
  refine Rn_bipush dX12_liveYear_1 rfl ?_
  refine Rn_irem dX12_liveYear_3 (by decide) ?_
  rw [Int.tmod_eq_emod_of_nonneg b1]
  refine Rn_istore_n dX12_liveYear_4 rfl (Nat.le_of_ble_eq_true rfl) rfl rfl ?_
  refine Rn_aload_n dX12_liveYear_5 rfl rfl rfl ?_
  refine Rn_getfield (ci := 12) (k := 0) dX12_liveYear_6 rfl in_12 (Nat.le_of_ble_eq_true rfl) wd_460 rfl h3 g5 ?_
  refine Rn_getfield (ci := 11) (k := 0) dX12_liveYear_9 rfl in_11 (Nat.le_of_ble_eq_true rfl) wd_293 rfl h7 g9 ?_
  refine Rn_getfield (ci := 7) (k := 3) dX12_liveYear_12 rfl in_7 (Nat.le_of_ble_eq_true rfl) wd_171 rfl h11 g13 ?_
  refine Rn_istore_n dX12_liveYear_15 rfl (Nat.le_of_ble_eq_true rfl) rfl rfl ?_
  refine Rn_aload_n dX12_liveYear_16 rfl rfl rfl ?_
  refine Rn_getfield (ci := 12) (k := 0) dX12_liveYear_17 rfl in_12 (Nat.le_of_ble_eq_true rfl) wd_460 rfl h3 g5 ?_
  refine Rn_getfield (ci := 11) (k := 1) dX12_liveYear_20 rfl in_11 (Nat.le_of_ble_eq_true rfl) wd_295 rfl h7 g15 ?_
  refine Rn_getfield (ci := 6) (k := 2) dX12_liveYear_23 rfl in_6 (Nat.le_of_ble_eq_true rfl) wd_207 rfl h17 g19 ?_
  refine Rn_istore dX12_liveYear_26 (Nat.le_of_ble_eq_true rfl) rfl rfl ?_
  refine Rn_iload_n dX12_liveYear_28 rfl rfl ?_
  refine Rn_iconst dX12_liveYear_29 rfl ?_
  refine Rn_icmplt (tgt := 81) dX12_liveYear_30 rfl ?_ ?_
  · exact kt
  · exact kf
theorem BX12_liveYear_33 {d bc bs : Nat} {h : aH} {n : Nat} {Q : aQ} {ar0 at3 at7 : Nat} {x1 x2 x3 x4 v11 : Int} {f1 f5 f9 : List aV} (h2 : h ar0 = cO 12 f1) (g4 : f1[0]? = some (vR (some at3))) (h6 : h at3 = cO 11 f5) (g8 : f5[1]? = some (vR (some at7))) (h10 : h at7 = cO 6 f9) (g12 : f9[3]? = some (vI v11)) (kt : 9999 ≤ v11 → Rn d bc bs mX12_liveYear 162 [some (vR (some ar0)), some (vI x1), some (vI x2), some (vI x3), some (vI x4)] [] h n Q) (kf : v11 < 9999 → Rn d bc bs mX12_liveYear 49 [some (vR (some ar0)), some (vI x1), some (vI x2), some (vI x3), some (vI x4)] [] h n Q) : Rn d (bc) (bs) mX12_liveYear 33 [some (vR (some ar0)), some (vI x1), some (vI x2), some (vI x3), some (vI x4)] [] h n Q := by
  refine Rn_aload_n dX12_liveYear_33 rfl rfl rfl ?_
  refine Rn_getfield (ci := 12) (k := 0) dX12_liveYear_34 rfl in_12 (Nat.le_of_ble_eq_true rfl) wd_460 rfl h2 g4 ?_
  refine Rn_getfield (ci := 11) (k := 1) dX12_liveYear_37 rfl in_11 (Nat.le_of_ble_eq_true rfl) wd_295 rfl h6 g8 ?_
  refine Rn_getfield (ci := 6) (k := 3) dX12_liveYear_40 rfl in_6 (Nat.le_of_ble_eq_true rfl) wd_210 rfl h10 g12 ?_
  refine Rn_sipush dX12_liveYear_43 rfl ?_
  refine Rn_icmpge (tgt := 162) dX12_liveYear_46 rfl ?_ ?_
  · exact kt
  · exact kf
theorem BX12_liveYear_49 {d bc bs : Nat} {h : aH} {n : Nat} {Q : aQ} {ar0 at5 : Nat} {x1 x2 x3 x4 : Int} {f1 f7 : List aV} {t3 t9 t11 : Option Nat} (h2 : h ar0 = cO 12 f1) (g4 : f1[4]? = some (vR t3)) (g6 : f1[0]? = some (vR (some at5))) (h8 : h at5 = cO 11 f7) (g10 : f7[1]? = some (vR t9)) (g12 : f7[0]? = some (vR t11)) (k : Rn d 0 0 mX11_rules 0 [some (vR (some at5))] [] h n (fun v h1 n1 => Rn (d + 1) bc bs mX12_liveYear 74 [some (vR (some ar0)), some (vI x1), some (vI x2), some (vI x3), some (vI x4)] (v.toList ++ [vR t11, vR t9, vR t3]) h1 n1 Q)) : Rn (d + 1) (bc) (bs) mX12_liveYear 49 [some (vR (some ar0)), some (vI x1), some (vI x2), some (vI x3), some (vI x4)] [] h n Q := by
  refine Rn_aload_n dX12_liveYear_49 rfl rfl rfl ?_
  refine Rn_getfield (ci := 12) (k := 4) dX12_liveYear_50 rfl in_12 (Nat.le_of_ble_eq_true rfl) wd_464 rfl h2 g4 ?_
  refine Rn_aload_n dX12_liveYear_53 rfl rfl rfl ?_
  refine Rn_getfield (ci := 12) (k := 0) dX12_liveYear_54 rfl in_12 (Nat.le_of_ble_eq_true rfl) wd_460 rfl h2 g6 ?_
  refine Rn_getfield (ci := 11) (k := 1) dX12_liveYear_57 rfl in_11 (Nat.le_of_ble_eq_true rfl) wd_295 rfl h8 g10 ?_
  refine Rn_aload_n dX12_liveYear_60 rfl rfl rfl ?_
  refine Rn_getfield (ci := 12) (k := 0) dX12_liveYear_61 rfl in_12 (Nat.le_of_ble_eq_true rfl) wd_460 rfl h2 g6 ?_
  refine Rn_getfield (ci := 11) (k := 0) dX12_liveYear_64 rfl in_11 (Nat.le_of_ble_eq_true rfl) wd_293 rfl h8 g12 ?_
  refine Rn_aload_n dX12_liveYear_67 rfl rfl rfl ?_
  refine Rn_getfield (ci := 12) (k := 0) dX12_liveYear_68 rfl in_12 (Nat.le_of_ble_eq_true rfl) wd_460 rfl h2 g6 ?_
  exact Rn_callV (ci := 11) (avs := []) (st := [vR t11, vR t9, vR t3]) (bc1 := 0) (bs1 := 0) (bc2 := bc) (bs2 := bs) fx_X11_rules dX12_liveYear_71 wd_871 wd_872 wd_873 rfl h8 rfl (Nat.le_of_ble_eq_true rfl) (Nat.le_of_ble_eq_true rfl) (by omega) (by omega) (ls1 := [some (vR (some at5))]) rfl k
theorem BX12_liveYear_74 {d bc bs : Nat} {h : aH} {n : Nat} {Q : aQ} {r0 q1 q2 q3 : Option Nat} {x1 x2 x3 x4 : Int} {aq0 : Nat} {f1 : List aV} (h2 : h aq0 = cO 2 f1) (k : Rn d 0 0 mX2_passTide 0 [some (vR (some aq0)), some (vR q1), some (vR q2), some (vR q3), none, none, none, none] [] h n (fun v h1 n1 => Rn (d + 1) bc bs mX12_liveYear 77 [some (vR r0), some (vI x1), some (vI x2), some (vI x3), some (vI x4)] (v.toList ++ []) h1 n1 Q)) : Rn (d + 1) (bc) (bs) mX12_liveYear 74 [some (vR r0), some (vI x1), some (vI x2), some (vI x3), some (vI x4)] [vR q3, vR q2, vR q1, vR (some aq0)] h n Q := by
  exact Rn_callV (ci := 2) (avs := [vR q1, vR q2, vR q3]) (st := []) (bc1 := 0) (bs1 := 0) (bc2 := bc) (bs2 := bs) fx_X2_passTide dX12_liveYear_74 wd_879 wd_880 wd_881 rfl h2 rfl (Nat.le_of_ble_eq_true rfl) (Nat.le_of_ble_eq_true rfl) (by omega) (by omega) (ls1 := [some (vR (some aq0)), some (vR q1), some (vR q2), some (vR q3), none, none, none, none]) rfl k
theorem BX12_liveYear_77 {d bc bs : Nat} {h : aH} {n : Nat} {Q : aQ} {r0 : Option Nat} {x1 x2 x3 x4 s0 : Int} (k : Q none h n) : Rn d (bc) (bs) mX12_liveYear 77 [some (vR r0), some (vI x1), some (vI x2), some (vI x3), some (vI x4)] [vI s0] h n Q := by
  refine Rn_pop dX12_liveYear_77 rfl ?_
  refine Rn_goto (tgt := 162) dX12_liveYear_78 rfl ?_
  exact Rn_return rfl dX12_liveYear_162 k
theorem BX12_liveYear_81 {d bc bs : Nat} {h : aH} {n : Nat} {Q : aQ} {r0 : Option Nat} {x1 x2 x3 x4 : Int} (kt : x2 ≠ 3 → Rn d bc bs mX12_liveYear 104 [some (vR r0), some (vI x1), some (vI x2), some (vI x3), some (vI x4)] [] h n Q) (kf : x2 = 3 → Rn d bc bs mX12_liveYear 86 [some (vR r0), some (vI x1), some (vI x2), some (vI x3), some (vI x4)] [] h n Q) : Rn d (bc) (bs) mX12_liveYear 81 [some (vR r0), some (vI x1), some (vI x2), some (vI x3), some (vI x4)] [] h n Q := by
  refine Rn_iload_n dX12_liveYear_81 rfl rfl ?_
  refine Rn_iconst dX12_liveYear_82 rfl ?_
  refine Rn_icmpne (tgt := 104) dX12_liveYear_83 rfl ?_ ?_
  · exact kt
  · exact kf
theorem BX12_liveYear_86 {d bc bs : Nat} {h : aH} {n : Nat} {Q : aQ} {r0 : Option Nat} {x1 x2 x3 x4 : Int} (kt : x4 ≤ 0 → Rn d bc bs mX12_liveYear 162 [some (vR r0), some (vI x1), some (vI x2), some (vI x3), some (vI x4)] [] h n Q) (kf : 0 < x4 → Rn d bc bs mX12_liveYear 91 [some (vR r0), some (vI x1), some (vI x2), some (vI x3), some (vI x4)] [] h n Q) : Rn d (bc) (bs) mX12_liveYear 86 [some (vR r0), some (vI x1), some (vI x2), some (vI x3), some (vI x4)] [] h n Q := by
  refine Rn_iload dX12_liveYear_86 rfl ?_
  refine Rn_ifle (tgt := 162) dX12_liveYear_88 rfl ?_ ?_
  · exact kt
  · exact kf
theorem BX12_liveYear_91 {d bc bs : Nat} {h : aH} {n : Nat} {Q : aQ} {ar0 : Nat} {x1 x2 x3 x4 : Int} {f2 : List aV} (e1 : ¬ x4 = 0) (h3 : h ar0 = cO 12 f2) (k : Rn d 0 0 mX12_tossAgain 0 [some (vR (some ar0)), some (vI (Int.tmod x1 x4)), some (vI 0), none] [] h n (fun v h1 n1 => Rn (d + 1) bc bs mX12_liveYear 100 [some (vR (some ar0)), some (vI x1), some (vI x2), some (vI x3), some (vI x4)] (v.toList ++ []) h1 n1 Q)) : Rn (d + 1) (bc) (bs) mX12_liveYear 91 [some (vR (some ar0)), some (vI x1), some (vI x2), some (vI x3), some (vI x4)] [] h n Q := by
  refine Rn_aload_n dX12_liveYear_91 rfl rfl rfl ?_
  refine Rn_iload_n dX12_liveYear_92 rfl rfl ?_
  refine Rn_iload dX12_liveYear_93 rfl ?_
  refine Rn_irem dX12_liveYear_95 e1 ?_
  refine Rn_iconst dX12_liveYear_96 rfl ?_
  exact Rn_callV (ci := 12) (avs := [vI (Int.tmod x1 x4), vI 0]) (st := []) (bc1 := 0) (bs1 := 0) (bc2 := bc) (bs2 := bs) fx_X12_tossAgain dX12_liveYear_97 wd_858 wd_860 wd_31 rfl h3 rfl (Nat.le_of_ble_eq_true rfl) (Nat.le_of_ble_eq_true rfl) (by omega) (by omega) (ls1 := [some (vR (some ar0)), some (vI (Int.tmod x1 x4)), some (vI 0), none]) rfl k
theorem BX12_liveYear_100 {d bc bs : Nat} {h : aH} {n : Nat} {Q : aQ} {r0 : Option Nat} {x1 x2 x3 x4 s0 : Int} (k : Q none h n) : Rn d (bc) (bs) mX12_liveYear 100 [some (vR r0), some (vI x1), some (vI x2), some (vI x3), some (vI x4)] [vI s0] h n Q := by
  refine Rn_pop dX12_liveYear_100 rfl ?_
  refine Rn_goto (tgt := 162) dX12_liveYear_101 rfl ?_
  exact Rn_return rfl dX12_liveYear_162 k
theorem BX12_liveYear_104 {d bc bs : Nat} {h : aH} {n : Nat} {Q : aQ} {r0 : Option Nat} {x1 x2 x3 x4 : Int} (kt : x2 ≠ 2 → Rn d bc bs mX12_liveYear 137 [some (vR r0), some (vI x1), some (vI x2), some (vI x3), some (vI x4)] [] h n Q) (kf : x2 = 2 → Rn d bc bs mX12_liveYear 109 [some (vR r0), some (vI x1), some (vI x2), some (vI x3), some (vI x4)] [] h n Q) : Rn d (bc) (bs) mX12_liveYear 104 [some (vR r0), some (vI x1), some (vI x2), some (vI x3), some (vI x4)] [] h n Q := by
  refine Rn_iload_n dX12_liveYear_104 rfl rfl ?_
  refine Rn_iconst dX12_liveYear_105 rfl ?_
  refine Rn_icmpne (tgt := 137) dX12_liveYear_106 rfl ?_ ?_
  · exact kt
  · exact kf
theorem BX12_liveYear_109 {d bc bs : Nat} {h : aH} {n : Nat} {Q : aQ} {r0 : Option Nat} {x1 x2 x3 x4 : Int} (kt : x4 ≤ 0 → Rn d bc bs mX12_liveYear 162 [some (vR r0), some (vI x1), some (vI x2), some (vI x3), some (vI x4)] [] h n Q) (kf : 0 < x4 → Rn d bc bs mX12_liveYear 114 [some (vR r0), some (vI x1), some (vI x2), some (vI x3), some (vI x4)] [] h n Q) : Rn d (bc) (bs) mX12_liveYear 109 [some (vR r0), some (vI x1), some (vI x2), some (vI x3), some (vI x4)] [] h n Q := by
  refine Rn_iload dX12_liveYear_109 rfl ?_
  refine Rn_ifle (tgt := 162) dX12_liveYear_111 rfl ?_ ?_
  · exact kt
  · exact kf
theorem BX12_liveYear_114 {d bc bs : Nat} {h : aH} {n : Nat} {Q : aQ} {r0 : Option Nat} {x1 x2 x3 x4 : Int} (kt : x3 ≤ 0 → Rn d bc bs mX12_liveYear 162 [some (vR r0), some (vI x1), some (vI x2), some (vI x3), some (vI x4)] [] h n Q) (kf : 0 < x3 → Rn d bc bs mX12_liveYear 118 [some (vR r0), some (vI x1), some (vI x2), some (vI x3), some (vI x4)] [] h n Q) : Rn d (bc) (bs) mX12_liveYear 114 [some (vR r0), some (vI x1), some (vI x2), some (vI x3), some (vI x4)] [] h n Q := by
  refine Rn_iload_n dX12_liveYear_114 rfl rfl ?_
  refine Rn_ifle (tgt := 162) dX12_liveYear_115 rfl ?_ ?_
  · exact kt
  · exact kf
theorem BX12_liveYear_118 {d bc bs : Nat} {h : aH} {n : Nat} {Q : aQ} {ar0 : Nat} {x1 x2 x3 x4 : Int} {f5 : List aV} (e1 : ¬ x4 = 0) (b2 : 0 ≤ x1) (b3 : -2147483648 ≤ x1 / 6 ∧ x1 / 6 < 2147483648) (e4 : ¬ x3 = 0) (h6 : h ar0 = cO 12 f5) (k : Rn d 0 0 mX12_fishBottle 0 [some (vR (some ar0)), some (vI (Int.tmod x1 x4)), some (vI (Int.tmod (x1 / 6) x3)), some (vI 0), none, none] [] h n (fun v h1 n1 => Rn (d + 1) bc bs mX12_liveYear 133 [some (vR (some ar0)), some (vI x1), some (vI x2), some (vI x3), some (vI x4)] (v.toList ++ []) h1 n1 Q)) : Rn (d + 1) (bc) (bs) mX12_liveYear 118 [some (vR (some ar0)), some (vI x1), some (vI x2), some (vI x3), some (vI x4)] [] h n Q := by
  refine Rn_aload_n dX12_liveYear_118 rfl rfl rfl ?_
  refine Rn_iload_n dX12_liveYear_119 rfl rfl ?_
  refine Rn_iload dX12_liveYear_120 rfl ?_
  refine Rn_irem dX12_liveYear_122 e1 ?_
  refine Rn_iload_n dX12_liveYear_123 rfl rfl ?_
  refine Rn_bipush dX12_liveYear_124 rfl ?_
  refine Rn_idiv dX12_liveYear_126 (by decide) ?_
  rw [Int.tdiv_eq_ediv_of_nonneg b2]
  rw [w32_id b3.1 b3.2]
  refine Rn_iload_n dX12_liveYear_127 rfl rfl ?_
  refine Rn_irem dX12_liveYear_128 e4 ?_
  refine Rn_iconst dX12_liveYear_129 rfl ?_
  exact Rn_callV (ci := 12) (avs := [vI (Int.tmod x1 x4), vI (Int.tmod (x1 / 6) x3), vI 0]) (st := []) (bc1 := 0) (bs1 := 0) (bc2 := bc) (bs2 := bs) fx_X12_fishBottle dX12_liveYear_130 wd_827 wd_829 wd_30 rfl h6 rfl (Nat.le_of_ble_eq_true rfl) (Nat.le_of_ble_eq_true rfl) (by omega) (by omega) (ls1 := [some (vR (some ar0)), some (vI (Int.tmod x1 x4)), some (vI (Int.tmod (x1 / 6) x3)), some (vI 0), none, none]) rfl k
theorem BX12_liveYear_133 {d bc bs : Nat} {h : aH} {n : Nat} {Q : aQ} {r0 : Option Nat} {x1 x2 x3 x4 s0 : Int} (k : Q none h n) : Rn d (bc) (bs) mX12_liveYear 133 [some (vR r0), some (vI x1), some (vI x2), some (vI x3), some (vI x4)] [vI s0] h n Q := by
  refine Rn_pop dX12_liveYear_133 rfl ?_
  refine Rn_goto (tgt := 162) dX12_liveYear_134 rfl ?_
  exact Rn_return rfl dX12_liveYear_162 k
theorem BX12_liveYear_137 {d bc bs : Nat} {h : aH} {n : Nat} {Q : aQ} {r0 : Option Nat} {x1 x2 x3 x4 : Int} (kt : x3 ≤ 0 → Rn d bc bs mX12_liveYear 162 [some (vR r0), some (vI x1), some (vI x2), some (vI x3), some (vI x4)] [] h n Q) (kf : 0 < x3 → Rn d bc bs mX12_liveYear 141 [some (vR r0), some (vI x1), some (vI x2), some (vI x3), some (vI x4)] [] h n Q) : Rn d (bc) (bs) mX12_liveYear 137 [some (vR r0), some (vI x1), some (vI x2), some (vI x3), some (vI x4)] [] h n Q := by
  refine Rn_iload_n dX12_liveYear_137 rfl rfl ?_
  refine Rn_ifle (tgt := 162) dX12_liveYear_138 rfl ?_ ?_
  · exact kt
  · exact kf
theorem BX12_liveYear_141 {d bc bs : Nat} {h : aH} {n : Nat} {Q : aQ} {ar0 : Nat} {x1 x2 x3 x4 : Int} {f5 : List aV} (e1 : ¬ x3 = 0) (b2 : 0 ≤ x1) (b3 : -2147483648 ≤ x1 / 6 ∧ x1 / 6 < 2147483648) (b4 : -2147483648 ≤ 1 + (x1 % 30) ∧ 1 + (x1 % 30) < 2147483648) (h6 : h ar0 = cO 12 f5) (k : Rn d 0 0 mX12_tossBottle 0 [some (vR (some ar0)), some (vI (Int.tmod x1 x3)), some (vI (Int.tmod (x1 / 6) x3)), some (vI (1 + (x1 % 30))), some (vI 0), none] [] h n (fun v h1 n1 => Rn (d + 1) bc bs mX12_liveYear 161 [some (vR (some ar0)), some (vI x1), some (vI x2), some (vI x3), some (vI x4)] (v.toList ++ []) h1 n1 Q)) : Rn (d + 1) (bc) (bs) mX12_liveYear 141 [some (vR (some ar0)), some (vI x1), some (vI x2), some (vI x3), some (vI x4)] [] h n Q := by
  refine Rn_aload_n dX12_liveYear_141 rfl rfl rfl ?_
  refine Rn_iload_n dX12_liveYear_142 rfl rfl ?_
  refine Rn_iload_n dX12_liveYear_143 rfl rfl ?_
  refine Rn_irem dX12_liveYear_144 e1 ?_
  refine Rn_iload_n dX12_liveYear_145 rfl rfl ?_
  refine Rn_bipush dX12_liveYear_146 rfl ?_
  refine Rn_idiv dX12_liveYear_148 (by decide) ?_
  rw [Int.tdiv_eq_ediv_of_nonneg b2]
  rw [w32_id b3.1 b3.2]
  refine Rn_iload_n dX12_liveYear_149 rfl rfl ?_
  refine Rn_irem dX12_liveYear_150 e1 ?_
  refine Rn_iconst dX12_liveYear_151 rfl ?_
  refine Rn_iload_n dX12_liveYear_152 rfl rfl ?_
  refine Rn_bipush dX12_liveYear_153 rfl ?_
  refine Rn_irem dX12_liveYear_155 (by decide) ?_
  rw [Int.tmod_eq_emod_of_nonneg b2]
  refine Rn_iadd dX12_liveYear_156 ?_
  rw [w32_id b4.1 b4.2]
  refine Rn_iconst dX12_liveYear_157 rfl ?_
  exact Rn_callV (ci := 12) (avs := [vI (Int.tmod x1 x3), vI (Int.tmod (x1 / 6) x3), vI (1 + (x1 % 30)), vI 0]) (st := []) (bc1 := 0) (bs1 := 0) (bc2 := bc) (bs2 := bs) fx_X12_tossBottle dX12_liveYear_158 wd_777 wd_779 wd_27 rfl h6 rfl (Nat.le_of_ble_eq_true rfl) (Nat.le_of_ble_eq_true rfl) (by omega) (by omega) (ls1 := [some (vR (some ar0)), some (vI (Int.tmod x1 x3)), some (vI (Int.tmod (x1 / 6) x3)), some (vI (1 + (x1 % 30))), some (vI 0), none]) rfl k
theorem BX12_liveYear_161 {d bc bs : Nat} {h : aH} {n : Nat} {Q : aQ} {r0 : Option Nat} {x1 x2 x3 x4 s0 : Int} (k : Q none h n) : Rn d (bc) (bs) mX12_liveYear 161 [some (vR r0), some (vI x1), some (vI x2), some (vI x3), some (vI x4)] [vI s0] h n Q := by
  refine Rn_pop dX12_liveYear_161 rfl ?_
  exact Rn_return rfl dX12_liveYear_162 k
theorem BX12_liveYear_162 {d bc bs : Nat} {h : aH} {n : Nat} {Q : aQ} {r0 : Option Nat} {x1 x2 x3 x4 : Int} (k : Q none h n) : Rn d (bc) (bs) mX12_liveYear 162 [some (vR r0), some (vI x1), some (vI x2), some (vI x3), some (vI x4)] [] h n Q := by
  exact Rn_return rfl dX12_liveYear_162 k
theorem dX12_of_0 : decode cX12_of 0 = .ok (.aload_n 0, 1) := by decide +kernel
theorem dX12_of_1 : decode cX12_of 1 = .ok (.getfield 10, 3) := by decide +kernel
theorem dX12_of_4 : decode cX12_of 4 = .ok (.getfield 68, 3) := by decide +kernel
theorem dX12_of_7 : decode cX12_of 7 = .ok (.iload_n 1, 1) := by decide +kernel
theorem dX12_of_8 : decode cX12_of 8 = .ok (.invokevirtual 175, 3) := by decide +kernel
theorem dX12_of_11 : decode cX12_of 11 = .ok (.ifCond .ne 5, 3) := by decide +kernel
theorem dX12_of_14 : decode cX12_of 14 = .ok (.iconst (-1), 1) := by decide +kernel
theorem dX12_of_15 : decode cX12_of 15 = .ok (.ireturn, 1) := by decide +kernel
theorem dX12_of_16 : decode cX12_of 16 = .ok (.iload_n 2, 1) := by decide +kernel
theorem dX12_of_17 : decode cX12_of 17 = .ok (.tableswitch 81 0 3 #[31, 43, 55, 67], 31) := by decide +kernel
theorem dX12_of_48 : decode cX12_of 48 = .ok (.aload_n 0, 1) := by decide +kernel
theorem dX12_of_49 : decode cX12_of 49 = .ok (.getfield 10, 3) := by decide +kernel
theorem dX12_of_52 : decode cX12_of 52 = .ok (.getfield 68, 3) := by decide +kernel
theorem dX12_of_55 : decode cX12_of 55 = .ok (.iload_n 1, 1) := by decide +kernel
theorem dX12_of_56 : decode cX12_of 56 = .ok (.invokevirtual 181, 3) := by decide +kernel
theorem dX12_of_59 : decode cX12_of 59 = .ok (.ireturn, 1) := by decide +kernel
theorem dX12_of_60 : decode cX12_of 60 = .ok (.aload_n 0, 1) := by decide +kernel
theorem dX12_of_61 : decode cX12_of 61 = .ok (.getfield 10, 3) := by decide +kernel
theorem dX12_of_64 : decode cX12_of 64 = .ok (.getfield 68, 3) := by decide +kernel
theorem dX12_of_67 : decode cX12_of 67 = .ok (.iload_n 1, 1) := by decide +kernel
theorem dX12_of_68 : decode cX12_of 68 = .ok (.invokevirtual 219, 3) := by decide +kernel
theorem dX12_of_71 : decode cX12_of 71 = .ok (.ireturn, 1) := by decide +kernel
theorem dX12_of_72 : decode cX12_of 72 = .ok (.aload_n 0, 1) := by decide +kernel
theorem dX12_of_73 : decode cX12_of 73 = .ok (.getfield 10, 3) := by decide +kernel
theorem dX12_of_76 : decode cX12_of 76 = .ok (.getfield 128, 3) := by decide +kernel
theorem dX12_of_79 : decode cX12_of 79 = .ok (.iload_n 1, 1) := by decide +kernel
theorem dX12_of_80 : decode cX12_of 80 = .ok (.invokevirtual 222, 3) := by decide +kernel
theorem dX12_of_83 : decode cX12_of 83 = .ok (.ireturn, 1) := by decide +kernel
theorem dX12_of_84 : decode cX12_of 84 = .ok (.aload_n 0, 1) := by decide +kernel
theorem dX12_of_85 : decode cX12_of 85 = .ok (.getfield 10, 3) := by decide +kernel
theorem dX12_of_88 : decode cX12_of 88 = .ok (.getfield 128, 3) := by decide +kernel
theorem dX12_of_91 : decode cX12_of 91 = .ok (.iconst 3, 1) := by decide +kernel
theorem dX12_of_92 : decode cX12_of 92 = .ok (.iload_n 1, 1) := by decide +kernel
theorem dX12_of_93 : decode cX12_of 93 = .ok (.iadd, 1) := by decide +kernel
theorem dX12_of_94 : decode cX12_of 94 = .ok (.invokevirtual 225, 3) := by decide +kernel
theorem dX12_of_97 : decode cX12_of 97 = .ok (.ireturn, 1) := by decide +kernel
theorem dX12_of_98 : decode cX12_of 98 = .ok (.iconst (-1), 1) := by decide +kernel
theorem dX12_of_99 : decode cX12_of 99 = .ok (.ireturn, 1) := by decide +kernel
theorem BX12_of_0 {d bc bs : Nat} {h : aH} {n : Nat} {Q : aQ} {ar0 at3 at7 : Nat} {x1 x2 : Int} {f1 f5 f9 : List aV} (h2 : h ar0 = cO 12 f1) (g4 : f1[0]? = some (vR (some at3))) (h6 : h at3 = cO 11 f5) (g8 : f5[0]? = some (vR (some at7))) (h10 : h at7 = cO 7 f9) (k : Rn d 0 0 mX7_hasPerson 0 [some (vR (some at7)), some (vI x1)] [] h n (fun v h1 n1 => Rn (d + 1) bc bs mX12_of 11 [some (vR (some ar0)), some (vI x1), some (vI x2)] (v.toList ++ []) h1 n1 Q)) : Rn (d + 1) (bc) (bs) mX12_of 0 [some (vR (some ar0)), some (vI x1), some (vI x2)] [] h n Q := by
  refine Rn_aload_n dX12_of_0 rfl rfl rfl ?_
  refine Rn_getfield (ci := 12) (k := 0) dX12_of_1 rfl in_12 (Nat.le_of_ble_eq_true rfl) wd_460 rfl h2 g4 ?_
  refine Rn_getfield (ci := 11) (k := 0) dX12_of_4 rfl in_11 (Nat.le_of_ble_eq_true rfl) wd_293 rfl h6 g8 ?_
  refine Rn_iload_n dX12_of_7 rfl rfl ?_
  exact Rn_callV (ci := 7) (avs := [vI x1]) (st := []) (bc1 := 0) (bs1 := 0) (bc2 := bc) (bs2 := bs) fx_X7_hasPerson dX12_of_8 wd_781 wd_782 wd_783 rfl h10 rfl (Nat.le_of_ble_eq_true rfl) (Nat.le_of_ble_eq_true rfl) (by omega) (by omega) (ls1 := [some (vR (some at7)), some (vI x1)]) rfl k
theorem BX12_of_11 {d bc bs : Nat} {h : aH} {n : Nat} {Q : aQ} {r0 : Option Nat} {x1 x2 s0 : Int} (kt : s0 ≠ 0 → Rn d bc bs mX12_of 16 [some (vR r0), some (vI x1), some (vI x2)] [] h n Q) (kf : s0 = 0 → Rn d bc bs mX12_of 14 [some (vR r0), some (vI x1), some (vI x2)] [] h n Q) : Rn d (bc) (bs) mX12_of 11 [some (vR r0), some (vI x1), some (vI x2)] [vI s0] h n Q := by
  refine Rn_ifne (tgt := 16) dX12_of_11 rfl ?_ ?_
  · exact kt
  · exact kf
theorem BX12_of_14 {d bc bs : Nat} {h : aH} {n : Nat} {Q : aQ} {r0 : Option Nat} {x1 x2 : Int} (k : Q (some (vI (-1))) h n) : Rn d (bc) (bs) mX12_of 14 [some (vR r0), some (vI x1), some (vI x2)] [] h n Q := by
  refine Rn_iconst dX12_of_14 rfl ?_
  exact Rn_ireturn rfl dX12_of_15 k
theorem BX12_of_16 {d bc bs : Nat} {h : aH} {n : Nat} {Q : aQ} {r0 : Option Nat} {x1 x2 : Int} (kd : (x2 < 0 ∨ 3 < x2) → Rn d bc bs mX12_of 98 [some (vR r0), some (vI x1), some (vI x2)] [] h n Q) (k0 : x2 = 0 → Rn d bc bs mX12_of 48 [some (vR r0), some (vI x1), some (vI x2)] [] h n Q) (k1 : x2 = 1 → Rn d bc bs mX12_of 60 [some (vR r0), some (vI x1), some (vI x2)] [] h n Q) (k2 : x2 = 2 → Rn d bc bs mX12_of 72 [some (vR r0), some (vI x1), some (vI x2)] [] h n Q) (k3 : x2 = 3 → Rn d bc bs mX12_of 84 [some (vR r0), some (vI x1), some (vI x2)] [] h n Q) : Rn d (bc) (bs) mX12_of 16 [some (vR r0), some (vI x1), some (vI x2)] [] h n Q := by
  refine Rn_iload_n dX12_of_16 rfl rfl ?_
  by_cases hq : x2 < 0 ∨ 3 < x2
  · exact Rn_tableOut (tgt := 98) dX12_of_17 hq rfl (kd hq)
  rcases (show x2 = 0 ∨ x2 = 1 ∨ x2 = 2 ∨ x2 = 3 by omega) with hz | hz | hz | hz
  · exact Rn_tableIn (tgt := 48) dX12_of_17 (by omega) (by omega) (by rw [hz] <;> rfl) rfl (k0 hz)
  · exact Rn_tableIn (tgt := 60) dX12_of_17 (by omega) (by omega) (by rw [hz] <;> rfl) rfl (k1 hz)
  · exact Rn_tableIn (tgt := 72) dX12_of_17 (by omega) (by omega) (by rw [hz] <;> rfl) rfl (k2 hz)
  · exact Rn_tableIn (tgt := 84) dX12_of_17 (by omega) (by omega) (by rw [hz] <;> rfl) rfl (k3 hz)
theorem BX12_of_48 {d bc bs : Nat} {h : aH} {n : Nat} {Q : aQ} {ar0 at3 at7 : Nat} {x1 x2 : Int} {f1 f5 f9 : List aV} (h2 : h ar0 = cO 12 f1) (g4 : f1[0]? = some (vR (some at3))) (h6 : h at3 = cO 11 f5) (g8 : f5[0]? = some (vR (some at7))) (h10 : h at7 = cO 7 f9) (k : Rn d 0 0 mX7_placeOf 0 [some (vR (some at7)), some (vI x1)] [] h n (fun v h1 n1 => Rn (d + 1) bc bs mX12_of 59 [some (vR (some ar0)), some (vI x1), some (vI x2)] (v.toList ++ []) h1 n1 Q)) : Rn (d + 1) (bc) (bs) mX12_of 48 [some (vR (some ar0)), some (vI x1), some (vI x2)] [] h n Q := by
  refine Rn_aload_n dX12_of_48 rfl rfl rfl ?_
  refine Rn_getfield (ci := 12) (k := 0) dX12_of_49 rfl in_12 (Nat.le_of_ble_eq_true rfl) wd_460 rfl h2 g4 ?_
  refine Rn_getfield (ci := 11) (k := 0) dX12_of_52 rfl in_11 (Nat.le_of_ble_eq_true rfl) wd_293 rfl h6 g8 ?_
  refine Rn_iload_n dX12_of_55 rfl rfl ?_
  exact Rn_callV (ci := 7) (avs := [vI x1]) (st := []) (bc1 := 0) (bs1 := 0) (bc2 := bc) (bs2 := bs) fx_X7_placeOf dX12_of_56 wd_811 wd_812 wd_813 rfl h10 rfl (Nat.le_of_ble_eq_true rfl) (Nat.le_of_ble_eq_true rfl) (by omega) (by omega) (ls1 := [some (vR (some at7)), some (vI x1)]) rfl k
theorem BX12_of_59 {d bc bs : Nat} {h : aH} {n : Nat} {Q : aQ} {r0 : Option Nat} {x1 x2 s0 : Int} (k : Q (some (vI s0)) h n) : Rn d (bc) (bs) mX12_of 59 [some (vR r0), some (vI x1), some (vI x2)] [vI s0] h n Q := by
  exact Rn_ireturn rfl dX12_of_59 k
theorem BX12_of_60 {d bc bs : Nat} {h : aH} {n : Nat} {Q : aQ} {ar0 at3 at7 : Nat} {x1 x2 : Int} {f1 f5 f9 : List aV} (h2 : h ar0 = cO 12 f1) (g4 : f1[0]? = some (vR (some at3))) (h6 : h at3 = cO 11 f5) (g8 : f5[0]? = some (vR (some at7))) (h10 : h at7 = cO 7 f9) (k : Rn d 0 0 mX7_luckOf 0 [some (vR (some at7)), some (vI x1)] [] h n (fun v h1 n1 => Rn (d + 1) bc bs mX12_of 71 [some (vR (some ar0)), some (vI x1), some (vI x2)] (v.toList ++ []) h1 n1 Q)) : Rn (d + 1) (bc) (bs) mX12_of 60 [some (vR (some ar0)), some (vI x1), some (vI x2)] [] h n Q := by
  refine Rn_aload_n dX12_of_60 rfl rfl rfl ?_
  refine Rn_getfield (ci := 12) (k := 0) dX12_of_61 rfl in_12 (Nat.le_of_ble_eq_true rfl) wd_460 rfl h2 g4 ?_
  refine Rn_getfield (ci := 11) (k := 0) dX12_of_64 rfl in_11 (Nat.le_of_ble_eq_true rfl) wd_293 rfl h6 g8 ?_
  refine Rn_iload_n dX12_of_67 rfl rfl ?_
  exact Rn_callV (ci := 7) (avs := [vI x1]) (st := []) (bc1 := 0) (bs1 := 0) (bc2 := bc) (bs2 := bs) fx_X7_luckOf dX12_of_68 wd_990 wd_913 wd_914 rfl h10 rfl (Nat.le_of_ble_eq_true rfl) (Nat.le_of_ble_eq_true rfl) (by omega) (by omega) (ls1 := [some (vR (some at7)), some (vI x1)]) rfl k
theorem BX12_of_71 {d bc bs : Nat} {h : aH} {n : Nat} {Q : aQ} {r0 : Option Nat} {x1 x2 s0 : Int} (k : Q (some (vI s0)) h n) : Rn d (bc) (bs) mX12_of 71 [some (vR r0), some (vI x1), some (vI x2)] [vI s0] h n Q := by
  exact Rn_ireturn rfl dX12_of_71 k
theorem BX12_of_72 {d bc bs : Nat} {h : aH} {n : Nat} {Q : aQ} {ar0 at3 at7 : Nat} {x1 x2 : Int} {f1 f5 f9 : List aV} (h2 : h ar0 = cO 12 f1) (g4 : f1[0]? = some (vR (some at3))) (h6 : h at3 = cO 11 f5) (g8 : f5[1]? = some (vR (some at7))) (h10 : h at7 = cO 6 f9) (k : Rn d 0 0 mX6_countComeTo 0 [some (vR (some at7)), some (vI x1), none, none] [] h n (fun v h1 n1 => Rn (d + 1) bc bs mX12_of 83 [some (vR (some ar0)), some (vI x1), some (vI x2)] (v.toList ++ []) h1 n1 Q)) : Rn (d + 1) (bc) (bs) mX12_of 72 [some (vR (some ar0)), some (vI x1), some (vI x2)] [] h n Q := by
  refine Rn_aload_n dX12_of_72 rfl rfl rfl ?_
  refine Rn_getfield (ci := 12) (k := 0) dX12_of_73 rfl in_12 (Nat.le_of_ble_eq_true rfl) wd_460 rfl h2 g4 ?_
  refine Rn_getfield (ci := 11) (k := 1) dX12_of_76 rfl in_11 (Nat.le_of_ble_eq_true rfl) wd_295 rfl h6 g8 ?_
  refine Rn_iload_n dX12_of_79 rfl rfl ?_
  exact Rn_callV (ci := 6) (avs := [vI x1]) (st := []) (bc1 := 0) (bs1 := 0) (bc2 := bc) (bs2 := bs) fx_X6_countComeTo dX12_of_80 wd_991 wd_992 wd_993 rfl h10 rfl (Nat.le_of_ble_eq_true rfl) (Nat.le_of_ble_eq_true rfl) (by omega) (by omega) (ls1 := [some (vR (some at7)), some (vI x1), none, none]) rfl k
theorem BX12_of_83 {d bc bs : Nat} {h : aH} {n : Nat} {Q : aQ} {r0 : Option Nat} {x1 x2 s0 : Int} (k : Q (some (vI s0)) h n) : Rn d (bc) (bs) mX12_of 83 [some (vR r0), some (vI x1), some (vI x2)] [vI s0] h n Q := by
  exact Rn_ireturn rfl dX12_of_83 k
theorem BX12_of_84 {d bc bs : Nat} {h : aH} {n : Nat} {Q : aQ} {ar0 at3 at7 : Nat} {x1 x2 : Int} {f1 f5 f10 : List aV} (h2 : h ar0 = cO 12 f1) (g4 : f1[0]? = some (vR (some at3))) (h6 : h at3 = cO 11 f5) (g8 : f5[1]? = some (vR (some at7))) (b9 : -2147483648 ≤ 3 + x1 ∧ 3 + x1 < 2147483648) (h11 : h at7 = cO 6 f10) (k : Rn d 0 0 mX6_bottlesThatAre 0 [some (vR (some at7)), some (vI (3 + x1)), none, none] [] h n (fun v h1 n1 => Rn (d + 1) bc bs mX12_of 97 [some (vR (some ar0)), some (vI x1), some (vI x2)] (v.toList ++ []) h1 n1 Q)) : Rn (d + 1) (bc) (bs) mX12_of 84 [some (vR (some ar0)), some (vI x1), some (vI x2)] [] h n Q := by
  refine Rn_aload_n dX12_of_84 rfl rfl rfl ?_
  refine Rn_getfield (ci := 12) (k := 0) dX12_of_85 rfl in_12 (Nat.le_of_ble_eq_true rfl) wd_460 rfl h2 g4 ?_
  refine Rn_getfield (ci := 11) (k := 1) dX12_of_88 rfl in_11 (Nat.le_of_ble_eq_true rfl) wd_295 rfl h6 g8 ?_
  refine Rn_iconst dX12_of_91 rfl ?_
  refine Rn_iload_n dX12_of_92 rfl rfl ?_
  refine Rn_iadd dX12_of_93 ?_
  rw [w32_id b9.1 b9.2]
  exact Rn_callV (ci := 6) (avs := [vI (3 + x1)]) (st := []) (bc1 := 0) (bs1 := 0) (bc2 := bc) (bs2 := bs) fx_X6_bottlesThatAre dX12_of_94 wd_995 wd_996 wd_997 rfl h11 rfl (Nat.le_of_ble_eq_true rfl) (Nat.le_of_ble_eq_true rfl) (by omega) (by omega) (ls1 := [some (vR (some at7)), some (vI (3 + x1)), none, none]) rfl k
theorem BX12_of_97 {d bc bs : Nat} {h : aH} {n : Nat} {Q : aQ} {r0 : Option Nat} {x1 x2 s0 : Int} (k : Q (some (vI s0)) h n) : Rn d (bc) (bs) mX12_of 97 [some (vR r0), some (vI x1), some (vI x2)] [vI s0] h n Q := by
  exact Rn_ireturn rfl dX12_of_97 k
theorem BX12_of_98 {d bc bs : Nat} {h : aH} {n : Nat} {Q : aQ} {r0 : Option Nat} {x1 x2 : Int} (k : Q (some (vI (-1))) h n) : Rn d (bc) (bs) mX12_of 98 [some (vR r0), some (vI x1), some (vI x2)] [] h n Q := by
  refine Rn_iconst dX12_of_98 rfl ?_
  exact Rn_ireturn rfl dX12_of_99 k
theorem dX12_ofBottle_0 : decode cX12_ofBottle 0 = .ok (.aload_n 0, 1) := by decide +kernel
theorem dX12_ofBottle_1 : decode cX12_ofBottle 1 = .ok (.getfield 10, 3) := by decide +kernel
theorem dX12_ofBottle_4 : decode cX12_ofBottle 4 = .ok (.getfield 128, 3) := by decide +kernel
theorem dX12_ofBottle_7 : decode cX12_ofBottle 7 = .ok (.iload_n 1, 1) := by decide +kernel
theorem dX12_ofBottle_8 : decode cX12_ofBottle 8 = .ok (.invokevirtual 202, 3) := by decide +kernel
theorem dX12_ofBottle_11 : decode cX12_ofBottle 11 = .ok (.ifCond .ne 6, 3) := by decide +kernel
theorem dX12_ofBottle_14 : decode cX12_ofBottle 14 = .ok (.bipush (-2), 2) := by decide +kernel
theorem dX12_ofBottle_16 : decode cX12_ofBottle 16 = .ok (.ireturn, 1) := by decide +kernel
theorem dX12_ofBottle_17 : decode cX12_ofBottle 17 = .ok (.iload_n 2, 1) := by decide +kernel
theorem dX12_ofBottle_18 : decode cX12_ofBottle 18 = .ok (.iconst 0, 1) := by decide +kernel
theorem dX12_ofBottle_19 : decode cX12_ofBottle 19 = .ok (.iconst 5, 1) := by decide +kernel
theorem dX12_ofBottle_20 : decode cX12_ofBottle 20 = .ok (.invokestatic 93, 3) := by decide +kernel
theorem dX12_ofBottle_23 : decode cX12_ofBottle 23 = .ok (.ifCond .eq 16, 3) := by decide +kernel
theorem dX12_ofBottle_26 : decode cX12_ofBottle 26 = .ok (.aload_n 0, 1) := by decide +kernel
theorem dX12_ofBottle_27 : decode cX12_ofBottle 27 = .ok (.getfield 10, 3) := by decide +kernel
theorem dX12_ofBottle_30 : decode cX12_ofBottle 30 = .ok (.getfield 128, 3) := by decide +kernel
theorem dX12_ofBottle_33 : decode cX12_ofBottle 33 = .ok (.iload_n 1, 1) := by decide +kernel
theorem dX12_ofBottle_34 : decode cX12_ofBottle 34 = .ok (.iload_n 2, 1) := by decide +kernel
theorem dX12_ofBottle_35 : decode cX12_ofBottle 35 = .ok (.invokevirtual 191, 3) := by decide +kernel
theorem dX12_ofBottle_38 : decode cX12_ofBottle 38 = .ok (.ireturn, 1) := by decide +kernel
theorem dX12_ofBottle_39 : decode cX12_ofBottle 39 = .ok (.iload_n 2, 1) := by decide +kernel
theorem dX12_ofBottle_40 : decode cX12_ofBottle 40 = .ok (.bipush 6, 2) := by decide +kernel
theorem dX12_ofBottle_42 : decode cX12_ofBottle 42 = .ok (.if_icmp .ne 33, 3) := by decide +kernel
theorem dX12_ofBottle_45 : decode cX12_ofBottle 45 = .ok (.aload_n 0, 1) := by decide +kernel
theorem dX12_ofBottle_46 : decode cX12_ofBottle 46 = .ok (.getfield 36, 3) := by decide +kernel
theorem dX12_ofBottle_49 : decode cX12_ofBottle 49 = .ok (.aload_n 0, 1) := by decide +kernel
theorem dX12_ofBottle_50 : decode cX12_ofBottle 50 = .ok (.getfield 10, 3) := by decide +kernel
theorem dX12_ofBottle_53 : decode cX12_ofBottle 53 = .ok (.invokevirtual 205, 3) := by decide +kernel
theorem dX12_ofBottle_56 : decode cX12_ofBottle 56 = .ok (.aload_n 0, 1) := by decide +kernel
theorem dX12_ofBottle_57 : decode cX12_ofBottle 57 = .ok (.getfield 10, 3) := by decide +kernel
theorem dX12_ofBottle_60 : decode cX12_ofBottle 60 = .ok (.getfield 128, 3) := by decide +kernel
theorem dX12_ofBottle_63 : decode cX12_ofBottle 63 = .ok (.aload_n 0, 1) := by decide +kernel
theorem dX12_ofBottle_64 : decode cX12_ofBottle 64 = .ok (.getfield 10, 3) := by decide +kernel
theorem dX12_ofBottle_67 : decode cX12_ofBottle 67 = .ok (.getfield 68, 3) := by decide +kernel
theorem dX12_ofBottle_70 : decode cX12_ofBottle 70 = .ok (.iload_n 1, 1) := by decide +kernel
theorem dX12_ofBottle_71 : decode cX12_ofBottle 71 = .ok (.invokevirtual 228, 3) := by decide +kernel
theorem dX12_ofBottle_74 : decode cX12_ofBottle 74 = .ok (.ireturn, 1) := by decide +kernel
theorem dX12_ofBottle_75 : decode cX12_ofBottle 75 = .ok (.iload_n 2, 1) := by decide +kernel
theorem dX12_ofBottle_76 : decode cX12_ofBottle 76 = .ok (.bipush 7, 2) := by decide +kernel
theorem dX12_ofBottle_78 : decode cX12_ofBottle 78 = .ok (.if_icmp .ne 33, 3) := by decide +kernel
theorem dX12_ofBottle_81 : decode cX12_ofBottle 81 = .ok (.aload_n 0, 1) := by decide +kernel
theorem dX12_ofBottle_82 : decode cX12_ofBottle 82 = .ok (.getfield 36, 3) := by decide +kernel
theorem dX12_ofBottle_85 : decode cX12_ofBottle 85 = .ok (.aload_n 0, 1) := by decide +kernel
theorem dX12_ofBottle_86 : decode cX12_ofBottle 86 = .ok (.getfield 10, 3) := by decide +kernel
theorem dX12_ofBottle_89 : decode cX12_ofBottle 89 = .ok (.invokevirtual 205, 3) := by decide +kernel
theorem dX12_ofBottle_92 : decode cX12_ofBottle 92 = .ok (.aload_n 0, 1) := by decide +kernel
theorem dX12_ofBottle_93 : decode cX12_ofBottle 93 = .ok (.getfield 10, 3) := by decide +kernel
theorem dX12_ofBottle_96 : decode cX12_ofBottle 96 = .ok (.getfield 128, 3) := by decide +kernel
theorem dX12_ofBottle_99 : decode cX12_ofBottle 99 = .ok (.aload_n 0, 1) := by decide +kernel
theorem dX12_ofBottle_100 : decode cX12_ofBottle 100 = .ok (.getfield 10, 3) := by decide +kernel
theorem dX12_ofBottle_103 : decode cX12_ofBottle 103 = .ok (.getfield 68, 3) := by decide +kernel
theorem dX12_ofBottle_106 : decode cX12_ofBottle 106 = .ok (.iload_n 1, 1) := by decide +kernel
theorem dX12_ofBottle_107 : decode cX12_ofBottle 107 = .ok (.invokevirtual 232, 3) := by decide +kernel
theorem dX12_ofBottle_110 : decode cX12_ofBottle 110 = .ok (.ireturn, 1) := by decide +kernel
theorem dX12_ofBottle_111 : decode cX12_ofBottle 111 = .ok (.bipush (-2), 2) := by decide +kernel
theorem dX12_ofBottle_113 : decode cX12_ofBottle 113 = .ok (.ireturn, 1) := by decide +kernel
theorem BX12_ofBottle_0 {d bc bs : Nat} {h : aH} {n : Nat} {Q : aQ} {ar0 at3 at7 : Nat} {x1 x2 : Int} {f1 f5 f9 : List aV} (h2 : h ar0 = cO 12 f1) (g4 : f1[0]? = some (vR (some at3))) (h6 : h at3 = cO 11 f5) (g8 : f5[1]? = some (vR (some at7))) (h10 : h at7 = cO 6 f9) (k : Rn d 0 0 mX6_hasBottle 0 [some (vR (some at7)), some (vI x1)] [] h n (fun v h1 n1 => Rn (d + 1) bc bs mX12_ofBottle 11 [some (vR (some ar0)), some (vI x1), some (vI x2)] (v.toList ++ []) h1 n1 Q)) : Rn (d + 1) (bc) (bs) mX12_ofBottle 0 [some (vR (some ar0)), some (vI x1), some (vI x2)] [] h n Q := by
  refine Rn_aload_n dX12_ofBottle_0 rfl rfl rfl ?_
  refine Rn_getfield (ci := 12) (k := 0) dX12_ofBottle_1 rfl in_12 (Nat.le_of_ble_eq_true rfl) wd_460 rfl h2 g4 ?_
  refine Rn_getfield (ci := 11) (k := 1) dX12_ofBottle_4 rfl in_11 (Nat.le_of_ble_eq_true rfl) wd_295 rfl h6 g8 ?_
  refine Rn_iload_n dX12_ofBottle_7 rfl rfl ?_
  exact Rn_callV (ci := 6) (avs := [vI x1]) (st := []) (bc1 := 0) (bs1 := 0) (bc2 := bc) (bs2 := bs) fx_X6_hasBottle dX12_ofBottle_8 wd_862 wd_836 wd_837 rfl h10 rfl (Nat.le_of_ble_eq_true rfl) (Nat.le_of_ble_eq_true rfl) (by omega) (by omega) (ls1 := [some (vR (some at7)), some (vI x1)]) rfl k
theorem BX12_ofBottle_11 {d bc bs : Nat} {h : aH} {n : Nat} {Q : aQ} {r0 : Option Nat} {x1 x2 s0 : Int} (kt : s0 ≠ 0 → Rn d bc bs mX12_ofBottle 17 [some (vR r0), some (vI x1), some (vI x2)] [] h n Q) (kf : s0 = 0 → Rn d bc bs mX12_ofBottle 14 [some (vR r0), some (vI x1), some (vI x2)] [] h n Q) : Rn d (bc) (bs) mX12_ofBottle 11 [some (vR r0), some (vI x1), some (vI x2)] [vI s0] h n Q := by
  refine Rn_ifne (tgt := 17) dX12_ofBottle_11 rfl ?_ ?_
  · exact kt
  · exact kf
theorem BX12_ofBottle_14 {d bc bs : Nat} {h : aH} {n : Nat} {Q : aQ} {r0 : Option Nat} {x1 x2 : Int} (k : Q (some (vI (-2))) h n) : Rn d (bc) (bs) mX12_ofBottle 14 [some (vR r0), some (vI x1), some (vI x2)] [] h n Q := by
  refine Rn_bipush dX12_ofBottle_14 rfl ?_
  exact Rn_ireturn rfl dX12_ofBottle_16 k
theorem BX12_ofBottle_17 {d bc bs : Nat} {h : aH} {n : Nat} {Q : aQ} {r0 : Option Nat} {x1 x2 : Int} (k : Rn d 0 0 mX12_within 0 [some (vI x2), some (vI 0), some (vI 5)] [] h n (fun v h1 n1 => Rn (d + 1) bc bs mX12_ofBottle 23 [some (vR r0), some (vI x1), some (vI x2)] (v.toList ++ []) h1 n1 Q)) : Rn (d + 1) (bc) (bs) mX12_ofBottle 17 [some (vR r0), some (vI x1), some (vI x2)] [] h n Q := by
  refine Rn_iload_n dX12_ofBottle_17 rfl rfl ?_
  refine Rn_iconst dX12_ofBottle_18 rfl ?_
  refine Rn_iconst dX12_ofBottle_19 rfl ?_
  exact Rn_callS (avs := [vI x2, vI 0, vI 5]) (st := []) (bc1 := 0) (bs1 := 0) (bc2 := bc) (bs2 := bs) fx_X12_within dX12_ofBottle_20 (Or.inl wd_502) wd_503 rfl (Nat.le_of_ble_eq_true rfl) (Nat.le_of_ble_eq_true rfl) (by omega) (by omega) (ls1 := [some (vI x2), some (vI 0), some (vI 5)]) rfl k
theorem BX12_ofBottle_23 {d bc bs : Nat} {h : aH} {n : Nat} {Q : aQ} {r0 : Option Nat} {x1 x2 s0 : Int} (kt : s0 = 0 → Rn d bc bs mX12_ofBottle 39 [some (vR r0), some (vI x1), some (vI x2)] [] h n Q) (kf : s0 ≠ 0 → Rn d bc bs mX12_ofBottle 26 [some (vR r0), some (vI x1), some (vI x2)] [] h n Q) : Rn d (bc) (bs) mX12_ofBottle 23 [some (vR r0), some (vI x1), some (vI x2)] [vI s0] h n Q := by
  refine Rn_ifeq (tgt := 39) dX12_ofBottle_23 rfl ?_ ?_
  · exact kt
  · exact kf
theorem BX12_ofBottle_26 {d bc bs : Nat} {h : aH} {n : Nat} {Q : aQ} {ar0 at3 at7 : Nat} {x1 x2 : Int} {f1 f5 f9 : List aV} (h2 : h ar0 = cO 12 f1) (g4 : f1[0]? = some (vR (some at3))) (h6 : h at3 = cO 11 f5) (g8 : f5[1]? = some (vR (some at7))) (h10 : h at7 = cO 6 f9) (k : Rn d 0 0 mX6_get 0 [some (vR (some at7)), some (vI x1), some (vI x2), none] [] h n (fun v h1 n1 => Rn (d + 1) bc bs mX12_ofBottle 38 [some (vR (some ar0)), some (vI x1), some (vI x2)] (v.toList ++ []) h1 n1 Q)) : Rn (d + 1) (bc) (bs) mX12_ofBottle 26 [some (vR (some ar0)), some (vI x1), some (vI x2)] [] h n Q := by
  refine Rn_aload_n dX12_ofBottle_26 rfl rfl rfl ?_
  refine Rn_getfield (ci := 12) (k := 0) dX12_ofBottle_27 rfl in_12 (Nat.le_of_ble_eq_true rfl) wd_460 rfl h2 g4 ?_
  refine Rn_getfield (ci := 11) (k := 1) dX12_ofBottle_30 rfl in_11 (Nat.le_of_ble_eq_true rfl) wd_295 rfl h6 g8 ?_
  refine Rn_iload_n dX12_ofBottle_33 rfl rfl ?_
  refine Rn_iload_n dX12_ofBottle_34 rfl rfl ?_
  exact Rn_callV (ci := 6) (avs := [vI x1, vI x2]) (st := []) (bc1 := 0) (bs1 := 0) (bc2 := bc) (bs2 := bs) fx_X6_get dX12_ofBottle_35 wd_843 wd_840 wd_841 rfl h10 rfl (Nat.le_of_ble_eq_true rfl) (Nat.le_of_ble_eq_true rfl) (by omega) (by omega) (ls1 := [some (vR (some at7)), some (vI x1), some (vI x2), none]) rfl k
theorem BX12_ofBottle_38 {d bc bs : Nat} {h : aH} {n : Nat} {Q : aQ} {r0 : Option Nat} {x1 x2 s0 : Int} (k : Q (some (vI s0)) h n) : Rn d (bc) (bs) mX12_ofBottle 38 [some (vR r0), some (vI x1), some (vI x2)] [vI s0] h n Q := by
  exact Rn_ireturn rfl dX12_ofBottle_38 k
theorem BX12_ofBottle_39 {d bc bs : Nat} {h : aH} {n : Nat} {Q : aQ} {r0 : Option Nat} {x1 x2 : Int} (kt : x2 ≠ 6 → Rn d bc bs mX12_ofBottle 75 [some (vR r0), some (vI x1), some (vI x2)] [] h n Q) (kf : x2 = 6 → Rn d bc bs mX12_ofBottle 45 [some (vR r0), some (vI x1), some (vI x2)] [] h n Q) : Rn d (bc) (bs) mX12_ofBottle 39 [some (vR r0), some (vI x1), some (vI x2)] [] h n Q := by
  refine Rn_iload_n dX12_ofBottle_39 rfl rfl ?_
  refine Rn_bipush dX12_ofBottle_40 rfl ?_
  refine Rn_icmpne (tgt := 75) dX12_ofBottle_42 rfl ?_ ?_
  · exact kt
  · exact kf
theorem BX12_ofBottle_45 {d bc bs : Nat} {h : aH} {n : Nat} {Q : aQ} {ar0 at5 : Nat} {x1 x2 : Int} {f1 f7 : List aV} {t3 : Option Nat} (h2 : h ar0 = cO 12 f1) (g4 : f1[4]? = some (vR t3)) (g6 : f1[0]? = some (vR (some at5))) (h8 : h at5 = cO 11 f7) (k : Rn d 0 0 mX11_rules 0 [some (vR (some at5))] [] h n (fun v h1 n1 => Rn (d + 1) bc bs mX12_ofBottle 56 [some (vR (some ar0)), some (vI x1), some (vI x2)] (v.toList ++ [vR t3]) h1 n1 Q)) : Rn (d + 1) (bc) (bs) mX12_ofBottle 45 [some (vR (some ar0)), some (vI x1), some (vI x2)] [] h n Q := by
  refine Rn_aload_n dX12_ofBottle_45 rfl rfl rfl ?_
  refine Rn_getfield (ci := 12) (k := 4) dX12_ofBottle_46 rfl in_12 (Nat.le_of_ble_eq_true rfl) wd_464 rfl h2 g4 ?_
  refine Rn_aload_n dX12_ofBottle_49 rfl rfl rfl ?_
  refine Rn_getfield (ci := 12) (k := 0) dX12_ofBottle_50 rfl in_12 (Nat.le_of_ble_eq_true rfl) wd_460 rfl h2 g6 ?_
  exact Rn_callV (ci := 11) (avs := []) (st := [vR t3]) (bc1 := 0) (bs1 := 0) (bc2 := bc) (bs2 := bs) fx_X11_rules dX12_ofBottle_53 wd_871 wd_872 wd_873 rfl h8 rfl (Nat.le_of_ble_eq_true rfl) (Nat.le_of_ble_eq_true rfl) (by omega) (by omega) (ls1 := [some (vR (some at5))]) rfl k
theorem BX12_ofBottle_56 {d bc bs : Nat} {h : aH} {n : Nat} {Q : aQ} {ar0 aq0 at3 : Nat} {x1 x2 : Int} {q1 t7 t9 : Option Nat} {f1 f5 f11 : List aV} (h2 : h ar0 = cO 12 f1) (g4 : f1[0]? = some (vR (some at3))) (h6 : h at3 = cO 11 f5) (g8 : f5[1]? = some (vR t7)) (g10 : f5[0]? = some (vR t9)) (h12 : h aq0 = cO 2 f11) (k : Rn d 0 0 mX2_comesOf 0 [some (vR (some aq0)), some (vR q1), some (vR t7), some (vR t9), some (vI x1)] [] h n (fun v h1 n1 => Rn (d + 1) bc bs mX12_ofBottle 74 [some (vR (some ar0)), some (vI x1), some (vI x2)] (v.toList ++ []) h1 n1 Q)) : Rn (d + 1) (bc) (bs) mX12_ofBottle 56 [some (vR (some ar0)), some (vI x1), some (vI x2)] [vR q1, vR (some aq0)] h n Q := by
  refine Rn_aload_n dX12_ofBottle_56 rfl rfl rfl ?_
  refine Rn_getfield (ci := 12) (k := 0) dX12_ofBottle_57 rfl in_12 (Nat.le_of_ble_eq_true rfl) wd_460 rfl h2 g4 ?_
  refine Rn_getfield (ci := 11) (k := 1) dX12_ofBottle_60 rfl in_11 (Nat.le_of_ble_eq_true rfl) wd_295 rfl h6 g8 ?_
  refine Rn_aload_n dX12_ofBottle_63 rfl rfl rfl ?_
  refine Rn_getfield (ci := 12) (k := 0) dX12_ofBottle_64 rfl in_12 (Nat.le_of_ble_eq_true rfl) wd_460 rfl h2 g4 ?_
  refine Rn_getfield (ci := 11) (k := 0) dX12_ofBottle_67 rfl in_11 (Nat.le_of_ble_eq_true rfl) wd_293 rfl h6 g10 ?_
  refine Rn_iload_n dX12_ofBottle_70 rfl rfl ?_
  exact Rn_callV (ci := 2) (avs := [vR q1, vR t7, vR t9, vI x1]) (st := []) (bc1 := 0) (bs1 := 0) (bc2 := bc) (bs2 := bs) fx_X2_comesOf dX12_ofBottle_71 wd_1003 wd_946 wd_947 rfl h12 rfl (Nat.le_of_ble_eq_true rfl) (Nat.le_of_ble_eq_true rfl) (by omega) (by omega) (ls1 := [some (vR (some aq0)), some (vR q1), some (vR t7), some (vR t9), some (vI x1)]) rfl k
theorem BX12_ofBottle_74 {d bc bs : Nat} {h : aH} {n : Nat} {Q : aQ} {r0 : Option Nat} {x1 x2 s0 : Int} (k : Q (some (vI s0)) h n) : Rn d (bc) (bs) mX12_ofBottle 74 [some (vR r0), some (vI x1), some (vI x2)] [vI s0] h n Q := by
  exact Rn_ireturn rfl dX12_ofBottle_74 k
theorem BX12_ofBottle_75 {d bc bs : Nat} {h : aH} {n : Nat} {Q : aQ} {r0 : Option Nat} {x1 x2 : Int} (kt : x2 ≠ 7 → Rn d bc bs mX12_ofBottle 111 [some (vR r0), some (vI x1), some (vI x2)] [] h n Q) (kf : x2 = 7 → Rn d bc bs mX12_ofBottle 81 [some (vR r0), some (vI x1), some (vI x2)] [] h n Q) : Rn d (bc) (bs) mX12_ofBottle 75 [some (vR r0), some (vI x1), some (vI x2)] [] h n Q := by
  refine Rn_iload_n dX12_ofBottle_75 rfl rfl ?_
  refine Rn_bipush dX12_ofBottle_76 rfl ?_
  refine Rn_icmpne (tgt := 111) dX12_ofBottle_78 rfl ?_ ?_
  · exact kt
  · exact kf
theorem BX12_ofBottle_81 {d bc bs : Nat} {h : aH} {n : Nat} {Q : aQ} {ar0 at5 : Nat} {x1 x2 : Int} {f1 f7 : List aV} {t3 : Option Nat} (h2 : h ar0 = cO 12 f1) (g4 : f1[4]? = some (vR t3)) (g6 : f1[0]? = some (vR (some at5))) (h8 : h at5 = cO 11 f7) (k : Rn d 0 0 mX11_rules 0 [some (vR (some at5))] [] h n (fun v h1 n1 => Rn (d + 1) bc bs mX12_ofBottle 92 [some (vR (some ar0)), some (vI x1), some (vI x2)] (v.toList ++ [vR t3]) h1 n1 Q)) : Rn (d + 1) (bc) (bs) mX12_ofBottle 81 [some (vR (some ar0)), some (vI x1), some (vI x2)] [] h n Q := by
  refine Rn_aload_n dX12_ofBottle_81 rfl rfl rfl ?_
  refine Rn_getfield (ci := 12) (k := 4) dX12_ofBottle_82 rfl in_12 (Nat.le_of_ble_eq_true rfl) wd_464 rfl h2 g4 ?_
  refine Rn_aload_n dX12_ofBottle_85 rfl rfl rfl ?_
  refine Rn_getfield (ci := 12) (k := 0) dX12_ofBottle_86 rfl in_12 (Nat.le_of_ble_eq_true rfl) wd_460 rfl h2 g6 ?_
  exact Rn_callV (ci := 11) (avs := []) (st := [vR t3]) (bc1 := 0) (bs1 := 0) (bc2 := bc) (bs2 := bs) fx_X11_rules dX12_ofBottle_89 wd_871 wd_872 wd_873 rfl h8 rfl (Nat.le_of_ble_eq_true rfl) (Nat.le_of_ble_eq_true rfl) (by omega) (by omega) (ls1 := [some (vR (some at5))]) rfl k
theorem BX12_ofBottle_92 {d bc bs : Nat} {h : aH} {n : Nat} {Q : aQ} {ar0 aq0 at3 : Nat} {x1 x2 : Int} {q1 t7 t9 : Option Nat} {f1 f5 f11 : List aV} (h2 : h ar0 = cO 12 f1) (g4 : f1[0]? = some (vR (some at3))) (h6 : h at3 = cO 11 f5) (g8 : f5[1]? = some (vR t7)) (g10 : f5[0]? = some (vR t9)) (h12 : h aq0 = cO 2 f11) (k : Rn d 0 0 mX2_wearsOf 0 [some (vR (some aq0)), some (vR q1), some (vR t7), some (vR t9), some (vI x1)] [] h n (fun v h1 n1 => Rn (d + 1) bc bs mX12_ofBottle 110 [some (vR (some ar0)), some (vI x1), some (vI x2)] (v.toList ++ []) h1 n1 Q)) : Rn (d + 1) (bc) (bs) mX12_ofBottle 92 [some (vR (some ar0)), some (vI x1), some (vI x2)] [vR q1, vR (some aq0)] h n Q := by
  refine Rn_aload_n dX12_ofBottle_92 rfl rfl rfl ?_
  refine Rn_getfield (ci := 12) (k := 0) dX12_ofBottle_93 rfl in_12 (Nat.le_of_ble_eq_true rfl) wd_460 rfl h2 g4 ?_
  refine Rn_getfield (ci := 11) (k := 1) dX12_ofBottle_96 rfl in_11 (Nat.le_of_ble_eq_true rfl) wd_295 rfl h6 g8 ?_
  refine Rn_aload_n dX12_ofBottle_99 rfl rfl rfl ?_
  refine Rn_getfield (ci := 12) (k := 0) dX12_ofBottle_100 rfl in_12 (Nat.le_of_ble_eq_true rfl) wd_460 rfl h2 g4 ?_
  refine Rn_getfield (ci := 11) (k := 0) dX12_ofBottle_103 rfl in_11 (Nat.le_of_ble_eq_true rfl) wd_293 rfl h6 g10 ?_
  refine Rn_iload_n dX12_ofBottle_106 rfl rfl ?_
  exact Rn_callV (ci := 2) (avs := [vR q1, vR t7, vR t9, vI x1]) (st := []) (bc1 := 0) (bs1 := 0) (bc2 := bc) (bs2 := bs) fx_X2_wearsOf dX12_ofBottle_107 wd_1004 wd_893 wd_894 rfl h12 rfl (Nat.le_of_ble_eq_true rfl) (Nat.le_of_ble_eq_true rfl) (by omega) (by omega) (ls1 := [some (vR (some aq0)), some (vR q1), some (vR t7), some (vR t9), some (vI x1)]) rfl k
theorem BX12_ofBottle_110 {d bc bs : Nat} {h : aH} {n : Nat} {Q : aQ} {r0 : Option Nat} {x1 x2 s0 : Int} (k : Q (some (vI s0)) h n) : Rn d (bc) (bs) mX12_ofBottle 110 [some (vR r0), some (vI x1), some (vI x2)] [vI s0] h n Q := by
  exact Rn_ireturn rfl dX12_ofBottle_110 k
theorem BX12_ofBottle_111 {d bc bs : Nat} {h : aH} {n : Nat} {Q : aQ} {r0 : Option Nat} {x1 x2 : Int} (k : Q (some (vI (-2))) h n) : Rn d (bc) (bs) mX12_ofBottle 111 [some (vR r0), some (vI x1), some (vI x2)] [] h n Q := by
  refine Rn_bipush dX12_ofBottle_111 rfl ?_
  exact Rn_ireturn rfl dX12_ofBottle_113 k
theorem dX12_told_0 : decode cX12_told 0 = .ok (.iload_n 1, 1) := by decide +kernel
theorem dX12_told_1 : decode cX12_told 1 = .ok (.iconst 0, 1) := by decide +kernel
theorem dX12_told_2 : decode cX12_told 2 = .ok (.iconst 2, 1) := by decide +kernel
theorem dX12_told_3 : decode cX12_told 3 = .ok (.invokestatic 93, 3) := by decide +kernel
theorem dX12_told_6 : decode cX12_told 6 = .ok (.ifCond .eq 10, 3) := by decide +kernel
theorem dX12_told_9 : decode cX12_told 9 = .ok (.iload_n 2, 1) := by decide +kernel
theorem dX12_told_10 : decode cX12_told 10 = .ok (.invokestatic 235, 3) := by decide +kernel
theorem dX12_told_13 : decode cX12_told 13 = .ok (.ifCond .ne 5, 3) := by decide +kernel
theorem dX12_told_16 : decode cX12_told 16 = .ok (.iconst (-1), 1) := by decide +kernel
theorem dX12_told_17 : decode cX12_told 17 = .ok (.ireturn, 1) := by decide +kernel
theorem dX12_told_18 : decode cX12_told 18 = .ok (.aload_n 0, 1) := by decide +kernel
theorem dX12_told_19 : decode cX12_told 19 = .ok (.getfield 10, 3) := by decide +kernel
theorem dX12_told_22 : decode cX12_told 22 = .ok (.getfield 68, 3) := by decide +kernel
theorem dX12_told_25 : decode cX12_told 25 = .ok (.iload_n 1, 1) := by decide +kernel
theorem dX12_told_26 : decode cX12_told 26 = .ok (.iload_n 2, 1) := by decide +kernel
theorem dX12_told_27 : decode cX12_told 27 = .ok (.invokevirtual 238, 3) := by decide +kernel
theorem dX12_told_30 : decode cX12_told 30 = .ok (.ireturn, 1) := by decide +kernel
theorem BX12_told_0 {d bc bs : Nat} {h : aH} {n : Nat} {Q : aQ} {r0 : Option Nat} {x1 x2 : Int} (k : Rn d 0 0 mX12_within 0 [some (vI x1), some (vI 0), some (vI 2)] [] h n (fun v h1 n1 => Rn (d + 1) bc bs mX12_told 6 [some (vR r0), some (vI x1), some (vI x2)] (v.toList ++ []) h1 n1 Q)) : Rn (d + 1) (bc) (bs) mX12_told 0 [some (vR r0), some (vI x1), some (vI x2)] [] h n Q := by
  refine Rn_iload_n dX12_told_0 rfl rfl ?_
  refine Rn_iconst dX12_told_1 rfl ?_
  refine Rn_iconst dX12_told_2 rfl ?_
  exact Rn_callS (avs := [vI x1, vI 0, vI 2]) (st := []) (bc1 := 0) (bs1 := 0) (bc2 := bc) (bs2 := bs) fx_X12_within dX12_told_3 (Or.inl wd_502) wd_503 rfl (Nat.le_of_ble_eq_true rfl) (Nat.le_of_ble_eq_true rfl) (by omega) (by omega) (ls1 := [some (vI x1), some (vI 0), some (vI 2)]) rfl k
theorem BX12_told_6 {d bc bs : Nat} {h : aH} {n : Nat} {Q : aQ} {r0 : Option Nat} {x1 x2 s0 : Int} (kt : s0 = 0 → Rn d bc bs mX12_told 16 [some (vR r0), some (vI x1), some (vI x2)] [] h n Q) (kf : s0 ≠ 0 → Rn d bc bs mX12_told 9 [some (vR r0), some (vI x1), some (vI x2)] [] h n Q) : Rn d (bc) (bs) mX12_told 6 [some (vR r0), some (vI x1), some (vI x2)] [vI s0] h n Q := by
  refine Rn_ifeq (tgt := 16) dX12_told_6 rfl ?_ ?_
  · exact kt
  · exact kf
theorem BX12_told_9 {d bc bs : Nat} {h : aH} {n : Nat} {Q : aQ} {r0 : Option Nat} {x1 x2 : Int} (k : Rn d 0 0 mX12_isPlace 0 [some (vI x2)] [] h n (fun v h1 n1 => Rn (d + 1) bc bs mX12_told 13 [some (vR r0), some (vI x1), some (vI x2)] (v.toList ++ []) h1 n1 Q)) : Rn (d + 1) (bc) (bs) mX12_told 9 [some (vR r0), some (vI x1), some (vI x2)] [] h n Q := by
  refine Rn_iload_n dX12_told_9 rfl rfl ?_
  exact Rn_callS (avs := [vI x2]) (st := []) (bc1 := 0) (bs1 := 0) (bc2 := bc) (bs2 := bs) fx_X12_isPlace dX12_told_10 (Or.inl wd_1009) wd_500 rfl (Nat.le_of_ble_eq_true rfl) (Nat.le_of_ble_eq_true rfl) (by omega) (by omega) (ls1 := [some (vI x2)]) rfl k
theorem BX12_told_13 {d bc bs : Nat} {h : aH} {n : Nat} {Q : aQ} {r0 : Option Nat} {x1 x2 s0 : Int} (kt : s0 ≠ 0 → Rn d bc bs mX12_told 18 [some (vR r0), some (vI x1), some (vI x2)] [] h n Q) (kf : s0 = 0 → Rn d bc bs mX12_told 16 [some (vR r0), some (vI x1), some (vI x2)] [] h n Q) : Rn d (bc) (bs) mX12_told 13 [some (vR r0), some (vI x1), some (vI x2)] [vI s0] h n Q := by
  refine Rn_ifne (tgt := 18) dX12_told_13 rfl ?_ ?_
  · exact kt
  · exact kf
theorem BX12_told_16 {d bc bs : Nat} {h : aH} {n : Nat} {Q : aQ} {r0 : Option Nat} {x1 x2 : Int} (k : Q (some (vI (-1))) h n) : Rn d (bc) (bs) mX12_told 16 [some (vR r0), some (vI x1), some (vI x2)] [] h n Q := by
  refine Rn_iconst dX12_told_16 rfl ?_
  exact Rn_ireturn rfl dX12_told_17 k
theorem BX12_told_18 {d bc bs : Nat} {h : aH} {n : Nat} {Q : aQ} {ar0 at3 at7 : Nat} {x1 x2 : Int} {f1 f5 f9 : List aV} (h2 : h ar0 = cO 12 f1) (g4 : f1[0]? = some (vR (some at3))) (h6 : h at3 = cO 11 f5) (g8 : f5[0]? = some (vR (some at7))) (h10 : h at7 = cO 7 f9) (k : Rn d 0 0 mX7_leadsTo 0 [some (vR (some at7)), some (vI x1), some (vI x2), none] [] h n (fun v h1 n1 => Rn (d + 1) bc bs mX12_told 30 [some (vR (some ar0)), some (vI x1), some (vI x2)] (v.toList ++ []) h1 n1 Q)) : Rn (d + 1) (bc) (bs) mX12_told 18 [some (vR (some ar0)), some (vI x1), some (vI x2)] [] h n Q := by
  refine Rn_aload_n dX12_told_18 rfl rfl rfl ?_
  refine Rn_getfield (ci := 12) (k := 0) dX12_told_19 rfl in_12 (Nat.le_of_ble_eq_true rfl) wd_460 rfl h2 g4 ?_
  refine Rn_getfield (ci := 11) (k := 0) dX12_told_22 rfl in_11 (Nat.le_of_ble_eq_true rfl) wd_293 rfl h6 g8 ?_
  refine Rn_iload_n dX12_told_25 rfl rfl ?_
  refine Rn_iload_n dX12_told_26 rfl rfl ?_
  exact Rn_callV (ci := 7) (avs := [vI x1, vI x2]) (st := []) (bc1 := 0) (bs1 := 0) (bc2 := bc) (bs2 := bs) fx_X7_leadsTo dX12_told_27 wd_1010 wd_885 wd_886 rfl h10 rfl (Nat.le_of_ble_eq_true rfl) (Nat.le_of_ble_eq_true rfl) (by omega) (by omega) (ls1 := [some (vR (some at7)), some (vI x1), some (vI x2), none]) rfl k
theorem BX12_told_30 {d bc bs : Nat} {h : aH} {n : Nat} {Q : aQ} {r0 : Option Nat} {x1 x2 s0 : Int} (k : Q (some (vI s0)) h n) : Rn d (bc) (bs) mX12_told 30 [some (vR r0), some (vI x1), some (vI x2)] [vI s0] h n Q := by
  exact Rn_ireturn rfl dX12_told_30 k
theorem dX12_is_0 : decode cX12_is 0 = .ok (.iload_n 1, 1) := by decide +kernel
theorem dX12_is_1 : decode cX12_is 1 = .ok (.tableswitch 76 0 3 #[31, 42, 53, 65], 31) := by decide +kernel
theorem dX12_is_32 : decode cX12_is 32 = .ok (.aload_n 0, 1) := by decide +kernel
theorem dX12_is_33 : decode cX12_is 33 = .ok (.getfield 10, 3) := by decide +kernel
theorem dX12_is_36 : decode cX12_is 36 = .ok (.getfield 128, 3) := by decide +kernel
theorem dX12_is_39 : decode cX12_is 39 = .ok (.getfield 131, 3) := by decide +kernel
theorem dX12_is_42 : decode cX12_is 42 = .ok (.ireturn, 1) := by decide +kernel
theorem dX12_is_43 : decode cX12_is 43 = .ok (.aload_n 0, 1) := by decide +kernel
theorem dX12_is_44 : decode cX12_is 44 = .ok (.getfield 10, 3) := by decide +kernel
theorem dX12_is_47 : decode cX12_is 47 = .ok (.getfield 128, 3) := by decide +kernel
theorem dX12_is_50 : decode cX12_is 50 = .ok (.getfield 162, 3) := by decide +kernel
theorem dX12_is_53 : decode cX12_is 53 = .ok (.ireturn, 1) := by decide +kernel
theorem dX12_is_54 : decode cX12_is 54 = .ok (.aload_n 0, 1) := by decide +kernel
theorem dX12_is_55 : decode cX12_is 55 = .ok (.getfield 10, 3) := by decide +kernel
theorem dX12_is_58 : decode cX12_is 58 = .ok (.getfield 128, 3) := by decide +kernel
theorem dX12_is_61 : decode cX12_is 61 = .ok (.iconst 0, 1) := by decide +kernel
theorem dX12_is_62 : decode cX12_is 62 = .ok (.invokevirtual 225, 3) := by decide +kernel
theorem dX12_is_65 : decode cX12_is 65 = .ok (.ireturn, 1) := by decide +kernel
theorem dX12_is_66 : decode cX12_is 66 = .ok (.aload_n 0, 1) := by decide +kernel
theorem dX12_is_67 : decode cX12_is 67 = .ok (.getfield 10, 3) := by decide +kernel
theorem dX12_is_70 : decode cX12_is 70 = .ok (.getfield 128, 3) := by decide +kernel
theorem dX12_is_73 : decode cX12_is 73 = .ok (.getfield 178, 3) := by decide +kernel
theorem dX12_is_76 : decode cX12_is 76 = .ok (.ireturn, 1) := by decide +kernel
theorem dX12_is_77 : decode cX12_is 77 = .ok (.bipush (-2), 2) := by decide +kernel
theorem dX12_is_79 : decode cX12_is 79 = .ok (.ireturn, 1) := by decide +kernel
theorem BX12_is_0 {d bc bs : Nat} {h : aH} {n : Nat} {Q : aQ} {r0 : Option Nat} {x1 : Int} (kd : (x1 < 0 ∨ 3 < x1) → Rn d bc bs mX12_is 77 [some (vR r0), some (vI x1)] [] h n Q) (k0 : x1 = 0 → Rn d bc bs mX12_is 32 [some (vR r0), some (vI x1)] [] h n Q) (k1 : x1 = 1 → Rn d bc bs mX12_is 43 [some (vR r0), some (vI x1)] [] h n Q) (k2 : x1 = 2 → Rn d bc bs mX12_is 54 [some (vR r0), some (vI x1)] [] h n Q) (k3 : x1 = 3 → Rn d bc bs mX12_is 66 [some (vR r0), some (vI x1)] [] h n Q) : Rn d (bc) (bs) mX12_is 0 [some (vR r0), some (vI x1)] [] h n Q := by
  refine Rn_iload_n dX12_is_0 rfl rfl ?_
  by_cases hq : x1 < 0 ∨ 3 < x1
  · exact Rn_tableOut (tgt := 77) dX12_is_1 hq rfl (kd hq)
  rcases (show x1 = 0 ∨ x1 = 1 ∨ x1 = 2 ∨ x1 = 3 by omega) with hz | hz | hz | hz
  · exact Rn_tableIn (tgt := 32) dX12_is_1 (by omega) (by omega) (by rw [hz] <;> rfl) rfl (k0 hz)
  · exact Rn_tableIn (tgt := 43) dX12_is_1 (by omega) (by omega) (by rw [hz] <;> rfl) rfl (k1 hz)
  · exact Rn_tableIn (tgt := 54) dX12_is_1 (by omega) (by omega) (by rw [hz] <;> rfl) rfl (k2 hz)
  · exact Rn_tableIn (tgt := 66) dX12_is_1 (by omega) (by omega) (by rw [hz] <;> rfl) rfl (k3 hz)
theorem BX12_is_32 {d bc bs : Nat} {h : aH} {n : Nat} {Q : aQ} {ar0 at3 at7 : Nat} {x1 v11 : Int} {f1 f5 f9 : List aV} (h2 : h ar0 = cO 12 f1) (g4 : f1[0]? = some (vR (some at3))) (h6 : h at3 = cO 11 f5) (g8 : f5[1]? = some (vR (some at7))) (h10 : h at7 = cO 6 f9) (g12 : f9[3]? = some (vI v11)) (k : Q (some (vI v11)) h n) : Rn d (bc) (bs) mX12_is 32 [some (vR (some ar0)), some (vI x1)] [] h n Q := by
  refine Rn_aload_n dX12_is_32 rfl rfl rfl ?_
  refine Rn_getfield (ci := 12) (k := 0) dX12_is_33 rfl in_12 (Nat.le_of_ble_eq_true rfl) wd_460 rfl h2 g4 ?_
  refine Rn_getfield (ci := 11) (k := 1) dX12_is_36 rfl in_11 (Nat.le_of_ble_eq_true rfl) wd_295 rfl h6 g8 ?_
  refine Rn_getfield (ci := 6) (k := 3) dX12_is_39 rfl in_6 (Nat.le_of_ble_eq_true rfl) wd_210 rfl h10 g12 ?_
  exact Rn_ireturn rfl dX12_is_42 k
theorem BX12_is_43 {d bc bs : Nat} {h : aH} {n : Nat} {Q : aQ} {ar0 at3 at7 : Nat} {x1 v11 : Int} {f1 f5 f9 : List aV} (h2 : h ar0 = cO 12 f1) (g4 : f1[0]? = some (vR (some at3))) (h6 : h at3 = cO 11 f5) (g8 : f5[1]? = some (vR (some at7))) (h10 : h at7 = cO 6 f9) (g12 : f9[4]? = some (vI v11)) (k : Q (some (vI v11)) h n) : Rn d (bc) (bs) mX12_is 43 [some (vR (some ar0)), some (vI x1)] [] h n Q := by
  refine Rn_aload_n dX12_is_43 rfl rfl rfl ?_
  refine Rn_getfield (ci := 12) (k := 0) dX12_is_44 rfl in_12 (Nat.le_of_ble_eq_true rfl) wd_460 rfl h2 g4 ?_
  refine Rn_getfield (ci := 11) (k := 1) dX12_is_47 rfl in_11 (Nat.le_of_ble_eq_true rfl) wd_295 rfl h6 g8 ?_
  refine Rn_getfield (ci := 6) (k := 4) dX12_is_50 rfl in_6 (Nat.le_of_ble_eq_true rfl) wd_212 rfl h10 g12 ?_
  exact Rn_ireturn rfl dX12_is_53 k
theorem BX12_is_54 {d bc bs : Nat} {h : aH} {n : Nat} {Q : aQ} {ar0 at3 at7 : Nat} {x1 : Int} {f1 f5 f9 : List aV} (h2 : h ar0 = cO 12 f1) (g4 : f1[0]? = some (vR (some at3))) (h6 : h at3 = cO 11 f5) (g8 : f5[1]? = some (vR (some at7))) (h10 : h at7 = cO 6 f9) (k : Rn d 0 0 mX6_bottlesThatAre 0 [some (vR (some at7)), some (vI 0), none, none] [] h n (fun v h1 n1 => Rn (d + 1) bc bs mX12_is 65 [some (vR (some ar0)), some (vI x1)] (v.toList ++ []) h1 n1 Q)) : Rn (d + 1) (bc) (bs) mX12_is 54 [some (vR (some ar0)), some (vI x1)] [] h n Q := by
  refine Rn_aload_n dX12_is_54 rfl rfl rfl ?_
  refine Rn_getfield (ci := 12) (k := 0) dX12_is_55 rfl in_12 (Nat.le_of_ble_eq_true rfl) wd_460 rfl h2 g4 ?_
  refine Rn_getfield (ci := 11) (k := 1) dX12_is_58 rfl in_11 (Nat.le_of_ble_eq_true rfl) wd_295 rfl h6 g8 ?_
  refine Rn_iconst dX12_is_61 rfl ?_
  exact Rn_callV (ci := 6) (avs := [vI 0]) (st := []) (bc1 := 0) (bs1 := 0) (bc2 := bc) (bs2 := bs) fx_X6_bottlesThatAre dX12_is_62 wd_995 wd_996 wd_997 rfl h10 rfl (Nat.le_of_ble_eq_true rfl) (Nat.le_of_ble_eq_true rfl) (by omega) (by omega) (ls1 := [some (vR (some at7)), some (vI 0), none, none]) rfl k
theorem BX12_is_65 {d bc bs : Nat} {h : aH} {n : Nat} {Q : aQ} {r0 : Option Nat} {x1 s0 : Int} (k : Q (some (vI s0)) h n) : Rn d (bc) (bs) mX12_is 65 [some (vR r0), some (vI x1)] [vI s0] h n Q := by
  exact Rn_ireturn rfl dX12_is_65 k
theorem BX12_is_66 {d bc bs : Nat} {h : aH} {n : Nat} {Q : aQ} {ar0 at3 at7 : Nat} {x1 v11 : Int} {f1 f5 f9 : List aV} (h2 : h ar0 = cO 12 f1) (g4 : f1[0]? = some (vR (some at3))) (h6 : h at3 = cO 11 f5) (g8 : f5[1]? = some (vR (some at7))) (h10 : h at7 = cO 6 f9) (g12 : f9[2]? = some (vI v11)) (k : Q (some (vI v11)) h n) : Rn d (bc) (bs) mX12_is 66 [some (vR (some ar0)), some (vI x1)] [] h n Q := by
  refine Rn_aload_n dX12_is_66 rfl rfl rfl ?_
  refine Rn_getfield (ci := 12) (k := 0) dX12_is_67 rfl in_12 (Nat.le_of_ble_eq_true rfl) wd_460 rfl h2 g4 ?_
  refine Rn_getfield (ci := 11) (k := 1) dX12_is_70 rfl in_11 (Nat.le_of_ble_eq_true rfl) wd_295 rfl h6 g8 ?_
  refine Rn_getfield (ci := 6) (k := 2) dX12_is_73 rfl in_6 (Nat.le_of_ble_eq_true rfl) wd_207 rfl h10 g12 ?_
  exact Rn_ireturn rfl dX12_is_76 k
theorem BX12_is_77 {d bc bs : Nat} {h : aH} {n : Nat} {Q : aQ} {r0 : Option Nat} {x1 : Int} (k : Q (some (vI (-2))) h n) : Rn d (bc) (bs) mX12_is 77 [some (vR r0), some (vI x1)] [] h n Q := by
  refine Rn_bipush dX12_is_77 rfl ?_
  exact Rn_ireturn rfl dX12_is_79 k
theorem dX12_book_0 : decode cX12_book 0 = .ok (.iload_n 1, 1) := by decide +kernel
theorem dX12_book_1 : decode cX12_book 1 = .ok (.iconst (-1), 1) := by decide +kernel
theorem dX12_book_2 : decode cX12_book 2 = .ok (.if_icmp .ne 17, 3) := by decide +kernel
theorem dX12_book_5 : decode cX12_book 5 = .ok (.aload_n 0, 1) := by decide +kernel
theorem dX12_book_6 : decode cX12_book 6 = .ok (.getfield 10, 3) := by decide +kernel
theorem dX12_book_9 : decode cX12_book 9 = .ok (.getfield 128, 3) := by decide +kernel
theorem dX12_book_12 : decode cX12_book 12 = .ok (.getfield 241, 3) := by decide +kernel
theorem dX12_book_15 : decode cX12_book 15 = .ok (.getfield 245, 3) := by decide +kernel
theorem dX12_book_18 : decode cX12_book 18 = .ok (.ireturn, 1) := by decide +kernel
theorem dX12_book_19 : decode cX12_book 19 = .ok (.iload_n 1, 1) := by decide +kernel
theorem dX12_book_20 : decode cX12_book 20 = .ok (.iconst 0, 1) := by decide +kernel
theorem dX12_book_21 : decode cX12_book 21 = .ok (.aload_n 0, 1) := by decide +kernel
theorem dX12_book_22 : decode cX12_book 22 = .ok (.getfield 10, 3) := by decide +kernel
theorem dX12_book_25 : decode cX12_book 25 = .ok (.getfield 128, 3) := by decide +kernel
theorem dX12_book_28 : decode cX12_book 28 = .ok (.getfield 241, 3) := by decide +kernel
theorem dX12_book_31 : decode cX12_book 31 = .ok (.getfield 245, 3) := by decide +kernel
theorem dX12_book_34 : decode cX12_book 34 = .ok (.iconst 1, 1) := by decide +kernel
theorem dX12_book_35 : decode cX12_book 35 = .ok (.isub, 1) := by decide +kernel
theorem dX12_book_36 : decode cX12_book 36 = .ok (.invokestatic 93, 3) := by decide +kernel
theorem dX12_book_39 : decode cX12_book 39 = .ok (.ifCond .eq 12, 3) := by decide +kernel
theorem dX12_book_42 : decode cX12_book 42 = .ok (.iload_n 2, 1) := by decide +kernel
theorem dX12_book_43 : decode cX12_book 43 = .ok (.iconst 0, 1) := by decide +kernel
theorem dX12_book_44 : decode cX12_book 44 = .ok (.iconst 3, 1) := by decide +kernel
theorem dX12_book_45 : decode cX12_book 45 = .ok (.invokestatic 93, 3) := by decide +kernel
theorem dX12_book_48 : decode cX12_book 48 = .ok (.ifCond .ne 6, 3) := by decide +kernel
theorem dX12_book_51 : decode cX12_book 51 = .ok (.bipush (-2), 2) := by decide +kernel
theorem dX12_book_53 : decode cX12_book 53 = .ok (.ireturn, 1) := by decide +kernel
theorem dX12_book_54 : decode cX12_book 54 = .ok (.aload_n 0, 1) := by decide +kernel
theorem dX12_book_55 : decode cX12_book 55 = .ok (.getfield 10, 3) := by decide +kernel
theorem dX12_book_58 : decode cX12_book 58 = .ok (.getfield 128, 3) := by decide +kernel
theorem dX12_book_61 : decode cX12_book 61 = .ok (.getfield 241, 3) := by decide +kernel
theorem dX12_book_64 : decode cX12_book 64 = .ok (.iload_n 1, 1) := by decide +kernel
theorem dX12_book_65 : decode cX12_book 65 = .ok (.iload_n 2, 1) := by decide +kernel
theorem dX12_book_66 : decode cX12_book 66 = .ok (.invokevirtual 250, 3) := by decide +kernel
theorem dX12_book_69 : decode cX12_book 69 = .ok (.ireturn, 1) := by decide +kernel
theorem BX12_book_0 {d bc bs : Nat} {h : aH} {n : Nat} {Q : aQ} {r0 : Option Nat} {x1 x2 : Int} (kt : x1 ≠ (-1) → Rn d bc bs mX12_book 19 [some (vR r0), some (vI x1), some (vI x2)] [] h n Q) (kf : x1 = (-1) → Rn d bc bs mX12_book 5 [some (vR r0), some (vI x1), some (vI x2)] [] h n Q) : Rn d (bc) (bs) mX12_book 0 [some (vR r0), some (vI x1), some (vI x2)] [] h n Q := by
  refine Rn_iload_n dX12_book_0 rfl rfl ?_
  refine Rn_iconst dX12_book_1 rfl ?_
  refine Rn_icmpne (tgt := 19) dX12_book_2 rfl ?_ ?_
  · exact kt
  · exact kf
theorem BX12_book_5 {d bc bs : Nat} {h : aH} {n : Nat} {Q : aQ} {ar0 at3 at7 at11 : Nat} {x1 x2 v15 : Int} {f1 f5 f9 f13 : List aV} (h2 : h ar0 = cO 12 f1) (g4 : f1[0]? = some (vR (some at3))) (h6 : h at3 = cO 11 f5) (g8 : f5[1]? = some (vR (some at7))) (h10 : h at7 = cO 6 f9) (g12 : f9[1]? = some (vR (some at11))) (h14 : h at11 = cO 0 f13) (g16 : f13[1]? = some (vI v15)) (k : Q (some (vI v15)) h n) : Rn d (bc) (bs) mX12_book 5 [some (vR (some ar0)), some (vI x1), some (vI x2)] [] h n Q := by
  refine Rn_aload_n dX12_book_5 rfl rfl rfl ?_
  refine Rn_getfield (ci := 12) (k := 0) dX12_book_6 rfl in_12 (Nat.le_of_ble_eq_true rfl) wd_460 rfl h2 g4 ?_
  refine Rn_getfield (ci := 11) (k := 1) dX12_book_9 rfl in_11 (Nat.le_of_ble_eq_true rfl) wd_295 rfl h6 g8 ?_
  refine Rn_getfield (ci := 6) (k := 1) dX12_book_12 rfl in_6 (Nat.le_of_ble_eq_true rfl) wd_204 rfl h10 g12 ?_
  refine Rn_getfield (ci := 0) (k := 1) dX12_book_15 rfl in_0 (Nat.le_of_ble_eq_true rfl) wd_196 rfl h14 g16 ?_
  exact Rn_ireturn rfl dX12_book_18 k
theorem BX12_book_19 {d bc bs : Nat} {h : aH} {n : Nat} {Q : aQ} {ar0 at3 at7 at11 : Nat} {x1 x2 v15 : Int} {f1 f5 f9 f13 : List aV} (h2 : h ar0 = cO 12 f1) (g4 : f1[0]? = some (vR (some at3))) (h6 : h at3 = cO 11 f5) (g8 : f5[1]? = some (vR (some at7))) (h10 : h at7 = cO 6 f9) (g12 : f9[1]? = some (vR (some at11))) (h14 : h at11 = cO 0 f13) (g16 : f13[1]? = some (vI v15)) (b17 : -2147483648 ≤ v15 - 1 ∧ v15 - 1 < 2147483648) (k : Rn d 0 0 mX12_within 0 [some (vI x1), some (vI 0), some (vI (v15 - 1))] [] h n (fun v h1 n1 => Rn (d + 1) bc bs mX12_book 39 [some (vR (some ar0)), some (vI x1), some (vI x2)] (v.toList ++ []) h1 n1 Q)) : Rn (d + 1) (bc) (bs) mX12_book 19 [some (vR (some ar0)), some (vI x1), some (vI x2)] [] h n Q := by
  refine Rn_iload_n dX12_book_19 rfl rfl ?_
  refine Rn_iconst dX12_book_20 rfl ?_
  refine Rn_aload_n dX12_book_21 rfl rfl rfl ?_
  refine Rn_getfield (ci := 12) (k := 0) dX12_book_22 rfl in_12 (Nat.le_of_ble_eq_true rfl) wd_460 rfl h2 g4 ?_
  refine Rn_getfield (ci := 11) (k := 1) dX12_book_25 rfl in_11 (Nat.le_of_ble_eq_true rfl) wd_295 rfl h6 g8 ?_
  refine Rn_getfield (ci := 6) (k := 1) dX12_book_28 rfl in_6 (Nat.le_of_ble_eq_true rfl) wd_204 rfl h10 g12 ?_
  refine Rn_getfield (ci := 0) (k := 1) dX12_book_31 rfl in_0 (Nat.le_of_ble_eq_true rfl) wd_196 rfl h14 g16 ?_
  refine Rn_iconst dX12_book_34 rfl ?_
  refine Rn_isub dX12_book_35 ?_
  rw [w32_id b17.1 b17.2]
  exact Rn_callS (avs := [vI x1, vI 0, vI (v15 - 1)]) (st := []) (bc1 := 0) (bs1 := 0) (bc2 := bc) (bs2 := bs) fx_X12_within dX12_book_36 (Or.inl wd_502) wd_503 rfl (Nat.le_of_ble_eq_true rfl) (Nat.le_of_ble_eq_true rfl) (by omega) (by omega) (ls1 := [some (vI x1), some (vI 0), some (vI (v15 - 1))]) rfl k
theorem BX12_book_39 {d bc bs : Nat} {h : aH} {n : Nat} {Q : aQ} {r0 : Option Nat} {x1 x2 s0 : Int} (kt : s0 = 0 → Rn d bc bs mX12_book 51 [some (vR r0), some (vI x1), some (vI x2)] [] h n Q) (kf : s0 ≠ 0 → Rn d bc bs mX12_book 42 [some (vR r0), some (vI x1), some (vI x2)] [] h n Q) : Rn d (bc) (bs) mX12_book 39 [some (vR r0), some (vI x1), some (vI x2)] [vI s0] h n Q := by
  refine Rn_ifeq (tgt := 51) dX12_book_39 rfl ?_ ?_
  · exact kt
  · exact kf
theorem BX12_book_42 {d bc bs : Nat} {h : aH} {n : Nat} {Q : aQ} {r0 : Option Nat} {x1 x2 : Int} (k : Rn d 0 0 mX12_within 0 [some (vI x2), some (vI 0), some (vI 3)] [] h n (fun v h1 n1 => Rn (d + 1) bc bs mX12_book 48 [some (vR r0), some (vI x1), some (vI x2)] (v.toList ++ []) h1 n1 Q)) : Rn (d + 1) (bc) (bs) mX12_book 42 [some (vR r0), some (vI x1), some (vI x2)] [] h n Q := by
  refine Rn_iload_n dX12_book_42 rfl rfl ?_
  refine Rn_iconst dX12_book_43 rfl ?_
  refine Rn_iconst dX12_book_44 rfl ?_
  exact Rn_callS (avs := [vI x2, vI 0, vI 3]) (st := []) (bc1 := 0) (bs1 := 0) (bc2 := bc) (bs2 := bs) fx_X12_within dX12_book_45 (Or.inl wd_502) wd_503 rfl (Nat.le_of_ble_eq_true rfl) (Nat.le_of_ble_eq_true rfl) (by omega) (by omega) (ls1 := [some (vI x2), some (vI 0), some (vI 3)]) rfl k
theorem BX12_book_48 {d bc bs : Nat} {h : aH} {n : Nat} {Q : aQ} {r0 : Option Nat} {x1 x2 s0 : Int} (kt : s0 ≠ 0 → Rn d bc bs mX12_book 54 [some (vR r0), some (vI x1), some (vI x2)] [] h n Q) (kf : s0 = 0 → Rn d bc bs mX12_book 51 [some (vR r0), some (vI x1), some (vI x2)] [] h n Q) : Rn d (bc) (bs) mX12_book 48 [some (vR r0), some (vI x1), some (vI x2)] [vI s0] h n Q := by
  refine Rn_ifne (tgt := 54) dX12_book_48 rfl ?_ ?_
  · exact kt
  · exact kf
theorem BX12_book_51 {d bc bs : Nat} {h : aH} {n : Nat} {Q : aQ} {r0 : Option Nat} {x1 x2 : Int} (k : Q (some (vI (-2))) h n) : Rn d (bc) (bs) mX12_book 51 [some (vR r0), some (vI x1), some (vI x2)] [] h n Q := by
  refine Rn_bipush dX12_book_51 rfl ?_
  exact Rn_ireturn rfl dX12_book_53 k
theorem BX12_book_54 {d bc bs : Nat} {h : aH} {n : Nat} {Q : aQ} {ar0 at3 at7 at11 : Nat} {x1 x2 : Int} {f1 f5 f9 f13 : List aV} (h2 : h ar0 = cO 12 f1) (g4 : f1[0]? = some (vR (some at3))) (h6 : h at3 = cO 11 f5) (g8 : f5[1]? = some (vR (some at7))) (h10 : h at7 = cO 6 f9) (g12 : f9[1]? = some (vR (some at11))) (h14 : h at11 = cO 0 f13) (k : Rn d 0 0 mX0_part 0 [some (vR (some at11)), some (vI x1), some (vI x2)] [] h n (fun v h1 n1 => Rn (d + 1) bc bs mX12_book 69 [some (vR (some ar0)), some (vI x1), some (vI x2)] (v.toList ++ []) h1 n1 Q)) : Rn (d + 1) (bc) (bs) mX12_book 54 [some (vR (some ar0)), some (vI x1), some (vI x2)] [] h n Q := by
  refine Rn_aload_n dX12_book_54 rfl rfl rfl ?_
  refine Rn_getfield (ci := 12) (k := 0) dX12_book_55 rfl in_12 (Nat.le_of_ble_eq_true rfl) wd_460 rfl h2 g4 ?_
  refine Rn_getfield (ci := 11) (k := 1) dX12_book_58 rfl in_11 (Nat.le_of_ble_eq_true rfl) wd_295 rfl h6 g8 ?_
  refine Rn_getfield (ci := 6) (k := 1) dX12_book_61 rfl in_6 (Nat.le_of_ble_eq_true rfl) wd_204 rfl h10 g12 ?_
  refine Rn_iload_n dX12_book_64 rfl rfl ?_
  refine Rn_iload_n dX12_book_65 rfl rfl ?_
  exact Rn_callV (ci := 0) (avs := [vI x1, vI x2]) (st := []) (bc1 := 0) (bs1 := 0) (bc2 := bc) (bs2 := bs) fx_X0_part dX12_book_66 wd_1019 wd_1020 wd_1021 rfl h14 rfl (Nat.le_of_ble_eq_true rfl) (Nat.le_of_ble_eq_true rfl) (by omega) (by omega) (ls1 := [some (vR (some at11)), some (vI x1), some (vI x2)]) rfl k
theorem BX12_book_69 {d bc bs : Nat} {h : aH} {n : Nat} {Q : aQ} {r0 : Option Nat} {x1 x2 s0 : Int} (k : Q (some (vI s0)) h n) : Rn d (bc) (bs) mX12_book 69 [some (vR r0), some (vI x1), some (vI x2)] [vI s0] h n Q := by
  exact Rn_ireturn rfl dX12_book_69 k
theorem dX12_luckiest_0 : decode cX12_luckiest 0 = .ok (.iconst (-1), 1) := by decide +kernel
theorem dX12_luckiest_1 : decode cX12_luckiest 1 = .ok (.istore_n 1, 1) := by decide +kernel
theorem dX12_luckiest_2 : decode cX12_luckiest 2 = .ok (.iconst 0, 1) := by decide +kernel
theorem dX12_luckiest_3 : decode cX12_luckiest 3 = .ok (.istore_n 2, 1) := by decide +kernel
theorem dX12_luckiest_4 : decode cX12_luckiest 4 = .ok (.iconst 0, 1) := by decide +kernel
theorem dX12_luckiest_5 : decode cX12_luckiest 5 = .ok (.istore_n 3, 1) := by decide +kernel
theorem dX12_luckiest_6 : decode cX12_luckiest 6 = .ok (.iload_n 3, 1) := by decide +kernel
theorem dX12_luckiest_7 : decode cX12_luckiest 7 = .ok (.aload_n 0, 1) := by decide +kernel
theorem dX12_luckiest_8 : decode cX12_luckiest 8 = .ok (.getfield 10, 3) := by decide +kernel
theorem dX12_luckiest_11 : decode cX12_luckiest 11 = .ok (.getfield 68, 3) := by decide +kernel
theorem dX12_luckiest_14 : decode cX12_luckiest 14 = .ok (.getfield 216, 3) := by decide +kernel
theorem dX12_luckiest_17 : decode cX12_luckiest 17 = .ok (.if_icmp .ge 33, 3) := by decide +kernel
theorem dX12_luckiest_20 : decode cX12_luckiest 20 = .ok (.aload_n 0, 1) := by decide +kernel
theorem dX12_luckiest_21 : decode cX12_luckiest 21 = .ok (.getfield 10, 3) := by decide +kernel
theorem dX12_luckiest_24 : decode cX12_luckiest 24 = .ok (.getfield 128, 3) := by decide +kernel
theorem dX12_luckiest_27 : decode cX12_luckiest 27 = .ok (.iload_n 3, 1) := by decide +kernel
theorem dX12_luckiest_28 : decode cX12_luckiest 28 = .ok (.invokevirtual 222, 3) := by decide +kernel
theorem dX12_luckiest_31 : decode cX12_luckiest 31 = .ok (.istore 4, 2) := by decide +kernel
theorem dX12_luckiest_33 : decode cX12_luckiest 33 = .ok (.iload 4, 2) := by decide +kernel
theorem dX12_luckiest_35 : decode cX12_luckiest 35 = .ok (.iload_n 2, 1) := by decide +kernel
theorem dX12_luckiest_36 : decode cX12_luckiest 36 = .ok (.if_icmp .le 8, 3) := by decide +kernel
theorem dX12_luckiest_39 : decode cX12_luckiest 39 = .ok (.iload 4, 2) := by decide +kernel
theorem dX12_luckiest_41 : decode cX12_luckiest 41 = .ok (.istore_n 2, 1) := by decide +kernel
theorem dX12_luckiest_42 : decode cX12_luckiest 42 = .ok (.iload_n 3, 1) := by decide +kernel
theorem dX12_luckiest_43 : decode cX12_luckiest 43 = .ok (.istore_n 1, 1) := by decide +kernel
theorem dX12_luckiest_44 : decode cX12_luckiest 44 = .ok (.iinc 3 1, 3) := by decide +kernel
theorem dX12_luckiest_47 : decode cX12_luckiest 47 = .ok (.goto (-41), 3) := by decide +kernel
theorem dX12_luckiest_50 : decode cX12_luckiest 50 = .ok (.iload_n 1, 1) := by decide +kernel
theorem dX12_luckiest_51 : decode cX12_luckiest 51 = .ok (.ireturn, 1) := by decide +kernel
theorem BX12_luckiest_0 {d bc bs : Nat} {h : aH} {n : Nat} {Q : aQ} {r0 : Option Nat} {l1 l2 l3 l4 : Option aV} (k : Rn d bc bs mX12_luckiest 6 [some (vR r0), some (vI (-1)), some (vI 0), some (vI 0), l4] [] h n Q) : Rn d (bc) (bs) mX12_luckiest 0 [some (vR r0), l1, l2, l3, l4] [] h n Q := by
  refine Rn_iconst dX12_luckiest_0 rfl ?_
  refine Rn_istore_n dX12_luckiest_1 rfl (Nat.le_of_ble_eq_true rfl) rfl rfl ?_
  refine Rn_iconst dX12_luckiest_2 rfl ?_
  refine Rn_istore_n dX12_luckiest_3 rfl (Nat.le_of_ble_eq_true rfl) rfl rfl ?_
  refine Rn_iconst dX12_luckiest_4 rfl ?_
  refine Rn_istore_n dX12_luckiest_5 rfl (Nat.le_of_ble_eq_true rfl) rfl rfl ?_
  exact k
theorem BX12_luckiest_6 {d bc bs : Nat} {h : aH} {n : Nat} {Q : aQ} {ar0 at3 at7 : Nat} {x1 x2 x3 v11 : Int} {l4 : Option aV} {f1 f5 f9 : List aV} (h2 : h ar0 = cO 12 f1) (g4 : f1[0]? = some (vR (some at3))) (h6 : h at3 = cO 11 f5) (g8 : f5[0]? = some (vR (some at7))) (h10 : h at7 = cO 7 f9) (g12 : f9[3]? = some (vI v11)) (kt : v11 ≤ x3 → Rn d bc bs mX12_luckiest 50 [some (vR (some ar0)), some (vI x1), some (vI x2), some (vI x3), l4] [] h n Q) (kf : x3 < v11 → Rn d bc bs mX12_luckiest 20 [some (vR (some ar0)), some (vI x1), some (vI x2), some (vI x3), l4] [] h n Q) : Rn d (bc) (bs) mX12_luckiest 6 [some (vR (some ar0)), some (vI x1), some (vI x2), some (vI x3), l4] [] h n Q := by
  refine Rn_iload_n dX12_luckiest_6 rfl rfl ?_
  refine Rn_aload_n dX12_luckiest_7 rfl rfl rfl ?_
  refine Rn_getfield (ci := 12) (k := 0) dX12_luckiest_8 rfl in_12 (Nat.le_of_ble_eq_true rfl) wd_460 rfl h2 g4 ?_
  refine Rn_getfield (ci := 11) (k := 0) dX12_luckiest_11 rfl in_11 (Nat.le_of_ble_eq_true rfl) wd_293 rfl h6 g8 ?_
  refine Rn_getfield (ci := 7) (k := 3) dX12_luckiest_14 rfl in_7 (Nat.le_of_ble_eq_true rfl) wd_171 rfl h10 g12 ?_
  refine Rn_icmpge (tgt := 50) dX12_luckiest_17 rfl ?_ ?_
  · exact kt
  · exact kf
theorem BX12_luckiest_20 {d bc bs : Nat} {h : aH} {n : Nat} {Q : aQ} {ar0 at3 at7 : Nat} {x1 x2 x3 : Int} {l4 : Option aV} {f1 f5 f9 : List aV} (h2 : h ar0 = cO 12 f1) (g4 : f1[0]? = some (vR (some at3))) (h6 : h at3 = cO 11 f5) (g8 : f5[1]? = some (vR (some at7))) (h10 : h at7 = cO 6 f9) (k : Rn d 0 0 mX6_countComeTo 0 [some (vR (some at7)), some (vI x3), none, none] [] h n (fun v h1 n1 => Rn (d + 1) bc bs mX12_luckiest 31 [some (vR (some ar0)), some (vI x1), some (vI x2), some (vI x3), l4] (v.toList ++ []) h1 n1 Q)) : Rn (d + 1) (bc) (bs) mX12_luckiest 20 [some (vR (some ar0)), some (vI x1), some (vI x2), some (vI x3), l4] [] h n Q := by
  refine Rn_aload_n dX12_luckiest_20 rfl rfl rfl ?_
  refine Rn_getfield (ci := 12) (k := 0) dX12_luckiest_21 rfl in_12 (Nat.le_of_ble_eq_true rfl) wd_460 rfl h2 g4 ?_
  refine Rn_getfield (ci := 11) (k := 1) dX12_luckiest_24 rfl in_11 (Nat.le_of_ble_eq_true rfl) wd_295 rfl h6 g8 ?_
  refine Rn_iload_n dX12_luckiest_27 rfl rfl ?_
  exact Rn_callV (ci := 6) (avs := [vI x3]) (st := []) (bc1 := 0) (bs1 := 0) (bc2 := bc) (bs2 := bs) fx_X6_countComeTo dX12_luckiest_28 wd_991 wd_992 wd_993 rfl h10 rfl (Nat.le_of_ble_eq_true rfl) (Nat.le_of_ble_eq_true rfl) (by omega) (by omega) (ls1 := [some (vR (some at7)), some (vI x3), none, none]) rfl k
theorem BX12_luckiest_31 {d bc bs : Nat} {h : aH} {n : Nat} {Q : aQ} {r0 : Option Nat} {x1 x2 x3 s0 : Int} {l4 : Option aV} (kt : s0 ≤ x2 → Rn d bc bs mX12_luckiest 44 [some (vR r0), some (vI x1), some (vI x2), some (vI x3), some (vI s0)] [] h n Q) (kf : x2 < s0 → Rn d bc bs mX12_luckiest 39 [some (vR r0), some (vI x1), some (vI x2), some (vI x3), some (vI s0)] [] h n Q) : Rn d (bc) (bs) mX12_luckiest 31 [some (vR r0), some (vI x1), some (vI x2), some (vI x3), l4] [vI s0] h n Q := by
  refine Rn_istore dX12_luckiest_31 (Nat.le_of_ble_eq_true rfl) rfl rfl ?_
  refine Rn_iload dX12_luckiest_33 rfl ?_
  refine Rn_iload_n dX12_luckiest_35 rfl rfl ?_
  refine Rn_icmple (tgt := 44) dX12_luckiest_36 rfl ?_ ?_
  · exact kt
  · exact kf
theorem BX12_luckiest_39 {d bc bs : Nat} {h : aH} {n : Nat} {Q : aQ} {r0 : Option Nat} {x1 x2 x3 x4 : Int} (b1 : -2147483648 ≤ x3 + 1 ∧ x3 + 1 < 2147483648) (k : Rn d bc bs mX12_luckiest 6 [some (vR r0), some (vI x3), some (vI x4), some (vI (x3 + 1)), some (vI x4)] [] h n Q) : Rn d (bc) (bs) mX12_luckiest 39 [some (vR r0), some (vI x1), some (vI x2), some (vI x3), some (vI x4)] [] h n Q := by
  refine Rn_iload dX12_luckiest_39 rfl ?_
  refine Rn_istore_n dX12_luckiest_41 rfl (Nat.le_of_ble_eq_true rfl) rfl rfl ?_
  refine Rn_iload_n dX12_luckiest_42 rfl rfl ?_
  refine Rn_istore_n dX12_luckiest_43 rfl (Nat.le_of_ble_eq_true rfl) rfl rfl ?_
  refine Rn_iinc dX12_luckiest_44 rfl (Nat.le_of_ble_eq_true rfl) rfl rfl rfl ?_
  rw [w32_id b1.1 b1.2]
  refine Rn_goto (tgt := 6) dX12_luckiest_47 rfl ?_
  exact k
theorem BX12_luckiest_44 {d bc bs : Nat} {h : aH} {n : Nat} {Q : aQ} {r0 : Option Nat} {x1 x2 x3 x4 : Int} (b1 : -2147483648 ≤ x3 + 1 ∧ x3 + 1 < 2147483648) (k : Rn d bc bs mX12_luckiest 6 [some (vR r0), some (vI x1), some (vI x2), some (vI (x3 + 1)), some (vI x4)] [] h n Q) : Rn d (bc) (bs) mX12_luckiest 44 [some (vR r0), some (vI x1), some (vI x2), some (vI x3), some (vI x4)] [] h n Q := by
  refine Rn_iinc dX12_luckiest_44 rfl (Nat.le_of_ble_eq_true rfl) rfl rfl rfl ?_
  rw [w32_id b1.1 b1.2]
  refine Rn_goto (tgt := 6) dX12_luckiest_47 rfl ?_
  exact k
theorem BX12_luckiest_50 {d bc bs : Nat} {h : aH} {n : Nat} {Q : aQ} {r0 : Option Nat} {x1 x2 x3 : Int} {l4 : Option aV} (k : Q (some (vI x1)) h n) : Rn d (bc) (bs) mX12_luckiest 50 [some (vR r0), some (vI x1), some (vI x2), some (vI x3), l4] [] h n Q := by
  refine Rn_iload_n dX12_luckiest_50 rfl rfl ?_
  exact Rn_ireturn rfl dX12_luckiest_51 k
theorem dX12_eldest_0 : decode cX12_eldest 0 = .ok (.iconst (-1), 1) := by decide +kernel
theorem dX12_eldest_1 : decode cX12_eldest 1 = .ok (.istore_n 1, 1) := by decide +kernel
theorem dX12_eldest_2 : decode cX12_eldest 2 = .ok (.iconst 0, 1) := by decide +kernel
theorem dX12_eldest_3 : decode cX12_eldest 3 = .ok (.istore_n 2, 1) := by decide +kernel
theorem dX12_eldest_4 : decode cX12_eldest 4 = .ok (.iload_n 2, 1) := by decide +kernel
theorem dX12_eldest_5 : decode cX12_eldest 5 = .ok (.aload_n 0, 1) := by decide +kernel
theorem dX12_eldest_6 : decode cX12_eldest 6 = .ok (.getfield 10, 3) := by decide +kernel
theorem dX12_eldest_9 : decode cX12_eldest 9 = .ok (.getfield 128, 3) := by decide +kernel
theorem dX12_eldest_12 : decode cX12_eldest 12 = .ok (.getfield 178, 3) := by decide +kernel
theorem dX12_eldest_15 : decode cX12_eldest 15 = .ok (.if_icmp .ge 60, 3) := by decide +kernel
theorem dX12_eldest_18 : decode cX12_eldest 18 = .ok (.aload_n 0, 1) := by decide +kernel
theorem dX12_eldest_19 : decode cX12_eldest 19 = .ok (.getfield 10, 3) := by decide +kernel
theorem dX12_eldest_22 : decode cX12_eldest 22 = .ok (.getfield 128, 3) := by decide +kernel
theorem dX12_eldest_25 : decode cX12_eldest 25 = .ok (.iload_n 2, 1) := by decide +kernel
theorem dX12_eldest_26 : decode cX12_eldest 26 = .ok (.invokevirtual 188, 3) := by decide +kernel
theorem dX12_eldest_29 : decode cX12_eldest 29 = .ok (.ifCond .ne 6, 3) := by decide +kernel
theorem dX12_eldest_32 : decode cX12_eldest 32 = .ok (.goto 37, 3) := by decide +kernel
theorem dX12_eldest_35 : decode cX12_eldest 35 = .ok (.iload_n 1, 1) := by decide +kernel
theorem dX12_eldest_36 : decode cX12_eldest 36 = .ok (.iconst (-1), 1) := by decide +kernel
theorem dX12_eldest_37 : decode cX12_eldest 37 = .ok (.if_icmp .eq 30, 3) := by decide +kernel
theorem dX12_eldest_40 : decode cX12_eldest 40 = .ok (.aload_n 0, 1) := by decide +kernel
theorem dX12_eldest_41 : decode cX12_eldest 41 = .ok (.getfield 10, 3) := by decide +kernel
theorem dX12_eldest_44 : decode cX12_eldest 44 = .ok (.getfield 128, 3) := by decide +kernel
theorem dX12_eldest_47 : decode cX12_eldest 47 = .ok (.iload_n 2, 1) := by decide +kernel
theorem dX12_eldest_48 : decode cX12_eldest 48 = .ok (.iconst 5, 1) := by decide +kernel
theorem dX12_eldest_49 : decode cX12_eldest 49 = .ok (.invokevirtual 191, 3) := by decide +kernel
theorem dX12_eldest_52 : decode cX12_eldest 52 = .ok (.aload_n 0, 1) := by decide +kernel
theorem dX12_eldest_53 : decode cX12_eldest 53 = .ok (.getfield 10, 3) := by decide +kernel
theorem dX12_eldest_56 : decode cX12_eldest 56 = .ok (.getfield 128, 3) := by decide +kernel
theorem dX12_eldest_59 : decode cX12_eldest 59 = .ok (.iload_n 1, 1) := by decide +kernel
theorem dX12_eldest_60 : decode cX12_eldest 60 = .ok (.iconst 5, 1) := by decide +kernel
theorem dX12_eldest_61 : decode cX12_eldest 61 = .ok (.invokevirtual 191, 3) := by decide +kernel
theorem dX12_eldest_64 : decode cX12_eldest 64 = .ok (.if_icmp .ge 5, 3) := by decide +kernel
theorem dX12_eldest_67 : decode cX12_eldest 67 = .ok (.iload_n 2, 1) := by decide +kernel
theorem dX12_eldest_68 : decode cX12_eldest 68 = .ok (.istore_n 1, 1) := by decide +kernel
theorem dX12_eldest_69 : decode cX12_eldest 69 = .ok (.iinc 2 1, 3) := by decide +kernel
theorem dX12_eldest_72 : decode cX12_eldest 72 = .ok (.goto (-68), 3) := by decide +kernel
theorem dX12_eldest_75 : decode cX12_eldest 75 = .ok (.iload_n 1, 1) := by decide +kernel
theorem dX12_eldest_76 : decode cX12_eldest 76 = .ok (.ireturn, 1) := by decide +kernel
theorem BX12_eldest_0 {d bc bs : Nat} {h : aH} {n : Nat} {Q : aQ} {r0 : Option Nat} {l1 l2 : Option aV} (k : Rn d bc bs mX12_eldest 4 [some (vR r0), some (vI (-1)), some (vI 0)] [] h n Q) : Rn d (bc) (bs) mX12_eldest 0 [some (vR r0), l1, l2] [] h n Q := by
  refine Rn_iconst dX12_eldest_0 rfl ?_
  refine Rn_istore_n dX12_eldest_1 rfl (Nat.le_of_ble_eq_true rfl) rfl rfl ?_
  refine Rn_iconst dX12_eldest_2 rfl ?_
  refine Rn_istore_n dX12_eldest_3 rfl (Nat.le_of_ble_eq_true rfl) rfl rfl ?_
  exact k
theorem BX12_eldest_4 {d bc bs : Nat} {h : aH} {n : Nat} {Q : aQ} {ar0 at3 at7 : Nat} {x1 x2 v11 : Int} {f1 f5 f9 : List aV} (h2 : h ar0 = cO 12 f1) (g4 : f1[0]? = some (vR (some at3))) (h6 : h at3 = cO 11 f5) (g8 : f5[1]? = some (vR (some at7))) (h10 : h at7 = cO 6 f9) (g12 : f9[2]? = some (vI v11)) (kt : v11 ≤ x2 → Rn d bc bs mX12_eldest 75 [some (vR (some ar0)), some (vI x1), some (vI x2)] [] h n Q) (kf : x2 < v11 → Rn d bc bs mX12_eldest 18 [some (vR (some ar0)), some (vI x1), some (vI x2)] [] h n Q) : Rn d (bc) (bs) mX12_eldest 4 [some (vR (some ar0)), some (vI x1), some (vI x2)] [] h n Q := by
  refine Rn_iload_n dX12_eldest_4 rfl rfl ?_
  refine Rn_aload_n dX12_eldest_5 rfl rfl rfl ?_
  refine Rn_getfield (ci := 12) (k := 0) dX12_eldest_6 rfl in_12 (Nat.le_of_ble_eq_true rfl) wd_460 rfl h2 g4 ?_
  refine Rn_getfield (ci := 11) (k := 1) dX12_eldest_9 rfl in_11 (Nat.le_of_ble_eq_true rfl) wd_295 rfl h6 g8 ?_
  refine Rn_getfield (ci := 6) (k := 2) dX12_eldest_12 rfl in_6 (Nat.le_of_ble_eq_true rfl) wd_207 rfl h10 g12 ?_
  refine Rn_icmpge (tgt := 75) dX12_eldest_15 rfl ?_ ?_
  · exact kt
  · exact kf
theorem BX12_eldest_18 {d bc bs : Nat} {h : aH} {n : Nat} {Q : aQ} {ar0 at3 at7 : Nat} {x1 x2 : Int} {f1 f5 f9 : List aV} (h2 : h ar0 = cO 12 f1) (g4 : f1[0]? = some (vR (some at3))) (h6 : h at3 = cO 11 f5) (g8 : f5[1]? = some (vR (some at7))) (h10 : h at7 = cO 6 f9) (k : Rn d 0 0 mX6_isAfloat 0 [some (vR (some at7)), some (vI x2)] [] h n (fun v h1 n1 => Rn (d + 1) bc bs mX12_eldest 29 [some (vR (some ar0)), some (vI x1), some (vI x2)] (v.toList ++ []) h1 n1 Q)) : Rn (d + 1) (bc) (bs) mX12_eldest 18 [some (vR (some ar0)), some (vI x1), some (vI x2)] [] h n Q := by
  refine Rn_aload_n dX12_eldest_18 rfl rfl rfl ?_
  refine Rn_getfield (ci := 12) (k := 0) dX12_eldest_19 rfl in_12 (Nat.le_of_ble_eq_true rfl) wd_460 rfl h2 g4 ?_
  refine Rn_getfield (ci := 11) (k := 1) dX12_eldest_22 rfl in_11 (Nat.le_of_ble_eq_true rfl) wd_295 rfl h6 g8 ?_
  refine Rn_iload_n dX12_eldest_25 rfl rfl ?_
  exact Rn_callV (ci := 6) (avs := [vI x2]) (st := []) (bc1 := 0) (bs1 := 0) (bc2 := bc) (bs2 := bs) fx_X6_isAfloat dX12_eldest_26 wd_831 wd_832 wd_833 rfl h10 rfl (Nat.le_of_ble_eq_true rfl) (Nat.le_of_ble_eq_true rfl) (by omega) (by omega) (ls1 := [some (vR (some at7)), some (vI x2)]) rfl k
theorem BX12_eldest_29 {d bc bs : Nat} {h : aH} {n : Nat} {Q : aQ} {r0 : Option Nat} {x1 x2 s0 : Int} (kt : s0 ≠ 0 → Rn d bc bs mX12_eldest 35 [some (vR r0), some (vI x1), some (vI x2)] [] h n Q) (kf : s0 = 0 → Rn d bc bs mX12_eldest 32 [some (vR r0), some (vI x1), some (vI x2)] [] h n Q) : Rn d (bc) (bs) mX12_eldest 29 [some (vR r0), some (vI x1), some (vI x2)] [vI s0] h n Q := by
  refine Rn_ifne (tgt := 35) dX12_eldest_29 rfl ?_ ?_
  · exact kt
  · exact kf
theorem BX12_eldest_32 {d bc bs : Nat} {h : aH} {n : Nat} {Q : aQ} {r0 : Option Nat} {x1 x2 : Int} (b1 : -2147483648 ≤ x2 + 1 ∧ x2 + 1 < 2147483648) (k : Rn d bc bs mX12_eldest 4 [some (vR r0), some (vI x1), some (vI (x2 + 1))] [] h n Q) : Rn d (bc) (bs) mX12_eldest 32 [some (vR r0), some (vI x1), some (vI x2)] [] h n Q := by
  refine Rn_goto (tgt := 69) dX12_eldest_32 rfl ?_
  refine Rn_iinc dX12_eldest_69 rfl (Nat.le_of_ble_eq_true rfl) rfl rfl rfl ?_
  rw [w32_id b1.1 b1.2]
  refine Rn_goto (tgt := 4) dX12_eldest_72 rfl ?_
  exact k
theorem BX12_eldest_35 {d bc bs : Nat} {h : aH} {n : Nat} {Q : aQ} {r0 : Option Nat} {x1 x2 : Int} (kt : x1 = (-1) → Rn d bc bs mX12_eldest 67 [some (vR r0), some (vI x1), some (vI x2)] [] h n Q) (kf : x1 ≠ (-1) → Rn d bc bs mX12_eldest 40 [some (vR r0), some (vI x1), some (vI x2)] [] h n Q) : Rn d (bc) (bs) mX12_eldest 35 [some (vR r0), some (vI x1), some (vI x2)] [] h n Q := by
  refine Rn_iload_n dX12_eldest_35 rfl rfl ?_
  refine Rn_iconst dX12_eldest_36 rfl ?_
  refine Rn_icmpeq (tgt := 67) dX12_eldest_37 rfl ?_ ?_
  · exact kt
  · exact kf
theorem BX12_eldest_40 {d bc bs : Nat} {h : aH} {n : Nat} {Q : aQ} {ar0 at3 at7 : Nat} {x1 x2 : Int} {f1 f5 f9 : List aV} (h2 : h ar0 = cO 12 f1) (g4 : f1[0]? = some (vR (some at3))) (h6 : h at3 = cO 11 f5) (g8 : f5[1]? = some (vR (some at7))) (h10 : h at7 = cO 6 f9) (k : Rn d 0 0 mX6_get 0 [some (vR (some at7)), some (vI x2), some (vI 5), none] [] h n (fun v h1 n1 => Rn (d + 1) bc bs mX12_eldest 52 [some (vR (some ar0)), some (vI x1), some (vI x2)] (v.toList ++ []) h1 n1 Q)) : Rn (d + 1) (bc) (bs) mX12_eldest 40 [some (vR (some ar0)), some (vI x1), some (vI x2)] [] h n Q := by
  refine Rn_aload_n dX12_eldest_40 rfl rfl rfl ?_
  refine Rn_getfield (ci := 12) (k := 0) dX12_eldest_41 rfl in_12 (Nat.le_of_ble_eq_true rfl) wd_460 rfl h2 g4 ?_
  refine Rn_getfield (ci := 11) (k := 1) dX12_eldest_44 rfl in_11 (Nat.le_of_ble_eq_true rfl) wd_295 rfl h6 g8 ?_
  refine Rn_iload_n dX12_eldest_47 rfl rfl ?_
  refine Rn_iconst dX12_eldest_48 rfl ?_
  exact Rn_callV (ci := 6) (avs := [vI x2, vI 5]) (st := []) (bc1 := 0) (bs1 := 0) (bc2 := bc) (bs2 := bs) fx_X6_get dX12_eldest_49 wd_843 wd_840 wd_841 rfl h10 rfl (Nat.le_of_ble_eq_true rfl) (Nat.le_of_ble_eq_true rfl) (by omega) (by omega) (ls1 := [some (vR (some at7)), some (vI x2), some (vI 5), none]) rfl k
theorem BX12_eldest_52 {d bc bs : Nat} {h : aH} {n : Nat} {Q : aQ} {ar0 at3 at7 : Nat} {x1 x2 s0 : Int} {f1 f5 f9 : List aV} (h2 : h ar0 = cO 12 f1) (g4 : f1[0]? = some (vR (some at3))) (h6 : h at3 = cO 11 f5) (g8 : f5[1]? = some (vR (some at7))) (h10 : h at7 = cO 6 f9) (k : Rn d 0 0 mX6_get 0 [some (vR (some at7)), some (vI x1), some (vI 5), none] [] h n (fun v h1 n1 => Rn (d + 1) bc bs mX12_eldest 64 [some (vR (some ar0)), some (vI x1), some (vI x2)] (v.toList ++ [vI s0]) h1 n1 Q)) : Rn (d + 1) (bc) (bs) mX12_eldest 52 [some (vR (some ar0)), some (vI x1), some (vI x2)] [vI s0] h n Q := by
  refine Rn_aload_n dX12_eldest_52 rfl rfl rfl ?_
  refine Rn_getfield (ci := 12) (k := 0) dX12_eldest_53 rfl in_12 (Nat.le_of_ble_eq_true rfl) wd_460 rfl h2 g4 ?_
  refine Rn_getfield (ci := 11) (k := 1) dX12_eldest_56 rfl in_11 (Nat.le_of_ble_eq_true rfl) wd_295 rfl h6 g8 ?_
  refine Rn_iload_n dX12_eldest_59 rfl rfl ?_
  refine Rn_iconst dX12_eldest_60 rfl ?_
  exact Rn_callV (ci := 6) (avs := [vI x1, vI 5]) (st := [vI s0]) (bc1 := 0) (bs1 := 0) (bc2 := bc) (bs2 := bs) fx_X6_get dX12_eldest_61 wd_843 wd_840 wd_841 rfl h10 rfl (Nat.le_of_ble_eq_true rfl) (Nat.le_of_ble_eq_true rfl) (by omega) (by omega) (ls1 := [some (vR (some at7)), some (vI x1), some (vI 5), none]) rfl k
theorem BX12_eldest_64 {d bc bs : Nat} {h : aH} {n : Nat} {Q : aQ} {r0 : Option Nat} {x1 x2 s0 s1 : Int} (kt : s1 ≤ s0 → Rn d bc bs mX12_eldest 69 [some (vR r0), some (vI x1), some (vI x2)] [] h n Q) (kf : s0 < s1 → Rn d bc bs mX12_eldest 67 [some (vR r0), some (vI x1), some (vI x2)] [] h n Q) : Rn d (bc) (bs) mX12_eldest 64 [some (vR r0), some (vI x1), some (vI x2)] [vI s1, vI s0] h n Q := by
  refine Rn_icmpge (tgt := 69) dX12_eldest_64 rfl ?_ ?_
  · exact kt
  · exact kf
theorem BX12_eldest_67 {d bc bs : Nat} {h : aH} {n : Nat} {Q : aQ} {r0 : Option Nat} {x1 x2 : Int} (b1 : -2147483648 ≤ x2 + 1 ∧ x2 + 1 < 2147483648) (k : Rn d bc bs mX12_eldest 4 [some (vR r0), some (vI x2), some (vI (x2 + 1))] [] h n Q) : Rn d (bc) (bs) mX12_eldest 67 [some (vR r0), some (vI x1), some (vI x2)] [] h n Q := by
  refine Rn_iload_n dX12_eldest_67 rfl rfl ?_
  refine Rn_istore_n dX12_eldest_68 rfl (Nat.le_of_ble_eq_true rfl) rfl rfl ?_
  refine Rn_iinc dX12_eldest_69 rfl (Nat.le_of_ble_eq_true rfl) rfl rfl rfl ?_
  rw [w32_id b1.1 b1.2]
  refine Rn_goto (tgt := 4) dX12_eldest_72 rfl ?_
  exact k
theorem BX12_eldest_69 {d bc bs : Nat} {h : aH} {n : Nat} {Q : aQ} {r0 : Option Nat} {x1 x2 : Int} (b1 : -2147483648 ≤ x2 + 1 ∧ x2 + 1 < 2147483648) (k : Rn d bc bs mX12_eldest 4 [some (vR r0), some (vI x1), some (vI (x2 + 1))] [] h n Q) : Rn d (bc) (bs) mX12_eldest 69 [some (vR r0), some (vI x1), some (vI x2)] [] h n Q := by
  refine Rn_iinc dX12_eldest_69 rfl (Nat.le_of_ble_eq_true rfl) rfl rfl rfl ?_
  rw [w32_id b1.1 b1.2]
  refine Rn_goto (tgt := 4) dX12_eldest_72 rfl ?_
  exact k
theorem BX12_eldest_75 {d bc bs : Nat} {h : aH} {n : Nat} {Q : aQ} {r0 : Option Nat} {x1 x2 : Int} (k : Q (some (vI x1)) h n) : Rn d (bc) (bs) mX12_eldest 75 [some (vR r0), some (vI x1), some (vI x2)] [] h n Q := by
  refine Rn_iload_n dX12_eldest_75 rfl rfl ?_
  exact Rn_ireturn rfl dX12_eldest_76 k
theorem dX12_crowd_0 : decode cX12_crowd 0 = .ok (.iconst (-1), 1) := by decide +kernel
theorem dX12_crowd_1 : decode cX12_crowd 1 = .ok (.istore_n 1, 1) := by decide +kernel
theorem dX12_crowd_2 : decode cX12_crowd 2 = .ok (.iconst 0, 1) := by decide +kernel
theorem dX12_crowd_3 : decode cX12_crowd 3 = .ok (.istore_n 2, 1) := by decide +kernel
theorem dX12_crowd_4 : decode cX12_crowd 4 = .ok (.iconst 0, 1) := by decide +kernel
theorem dX12_crowd_5 : decode cX12_crowd 5 = .ok (.istore_n 3, 1) := by decide +kernel
theorem dX12_crowd_6 : decode cX12_crowd 6 = .ok (.iload_n 3, 1) := by decide +kernel
theorem dX12_crowd_7 : decode cX12_crowd 7 = .ok (.bipush 10, 2) := by decide +kernel
theorem dX12_crowd_9 : decode cX12_crowd 9 = .ok (.if_icmp .ge 33, 3) := by decide +kernel
theorem dX12_crowd_12 : decode cX12_crowd 12 = .ok (.aload_n 0, 1) := by decide +kernel
theorem dX12_crowd_13 : decode cX12_crowd 13 = .ok (.getfield 10, 3) := by decide +kernel
theorem dX12_crowd_16 : decode cX12_crowd 16 = .ok (.getfield 128, 3) := by decide +kernel
theorem dX12_crowd_19 : decode cX12_crowd 19 = .ok (.iload_n 3, 1) := by decide +kernel
theorem dX12_crowd_20 : decode cX12_crowd 20 = .ok (.invokevirtual 251, 3) := by decide +kernel
theorem dX12_crowd_23 : decode cX12_crowd 23 = .ok (.istore 4, 2) := by decide +kernel
theorem dX12_crowd_25 : decode cX12_crowd 25 = .ok (.iload 4, 2) := by decide +kernel
theorem dX12_crowd_27 : decode cX12_crowd 27 = .ok (.iload_n 2, 1) := by decide +kernel
theorem dX12_crowd_28 : decode cX12_crowd 28 = .ok (.if_icmp .le 8, 3) := by decide +kernel
theorem dX12_crowd_31 : decode cX12_crowd 31 = .ok (.iload 4, 2) := by decide +kernel
theorem dX12_crowd_33 : decode cX12_crowd 33 = .ok (.istore_n 2, 1) := by decide +kernel
theorem dX12_crowd_34 : decode cX12_crowd 34 = .ok (.iload_n 3, 1) := by decide +kernel
theorem dX12_crowd_35 : decode cX12_crowd 35 = .ok (.istore_n 1, 1) := by decide +kernel
theorem dX12_crowd_36 : decode cX12_crowd 36 = .ok (.iinc 3 1, 3) := by decide +kernel
theorem dX12_crowd_39 : decode cX12_crowd 39 = .ok (.goto (-33), 3) := by decide +kernel
theorem dX12_crowd_42 : decode cX12_crowd 42 = .ok (.iload_n 1, 1) := by decide +kernel
theorem dX12_crowd_43 : decode cX12_crowd 43 = .ok (.ireturn, 1) := by decide +kernel
theorem BX12_crowd_0 {d bc bs : Nat} {h : aH} {n : Nat} {Q : aQ} {r0 : Option Nat} {l1 l2 l3 l4 : Option aV} (k : Rn d bc bs mX12_crowd 6 [some (vR r0), some (vI (-1)), some (vI 0), some (vI 0), l4] [] h n Q) : Rn d (bc) (bs) mX12_crowd 0 [some (vR r0), l1, l2, l3, l4] [] h n Q := by
  refine Rn_iconst dX12_crowd_0 rfl ?_
  refine Rn_istore_n dX12_crowd_1 rfl (Nat.le_of_ble_eq_true rfl) rfl rfl ?_
  refine Rn_iconst dX12_crowd_2 rfl ?_
  refine Rn_istore_n dX12_crowd_3 rfl (Nat.le_of_ble_eq_true rfl) rfl rfl ?_
  refine Rn_iconst dX12_crowd_4 rfl ?_
  refine Rn_istore_n dX12_crowd_5 rfl (Nat.le_of_ble_eq_true rfl) rfl rfl ?_
  exact k
theorem BX12_crowd_6 {d bc bs : Nat} {h : aH} {n : Nat} {Q : aQ} {r0 : Option Nat} {x1 x2 x3 : Int} {l4 : Option aV} (kt : 10 ≤ x3 → Rn d bc bs mX12_crowd 42 [some (vR r0), some (vI x1), some (vI x2), some (vI x3), l4] [] h n Q) (kf : x3 < 10 → Rn d bc bs mX12_crowd 12 [some (vR r0), some (vI x1), some (vI x2), some (vI x3), l4] [] h n Q) : Rn d (bc) (bs) mX12_crowd 6 [some (vR r0), some (vI x1), some (vI x2), some (vI x3), l4] [] h n Q := by
  refine Rn_iload_n dX12_crowd_6 rfl rfl ?_
  refine Rn_bipush dX12_crowd_7 rfl ?_
  refine Rn_icmpge (tgt := 42) dX12_crowd_9 rfl ?_ ?_
  · exact kt
  · exact kf
theorem BX12_crowd_12 {d bc bs : Nat} {h : aH} {n : Nat} {Q : aQ} {ar0 at3 at7 : Nat} {x1 x2 x3 : Int} {l4 : Option aV} {f1 f5 f9 : List aV} (h2 : h ar0 = cO 12 f1) (g4 : f1[0]? = some (vR (some at3))) (h6 : h at3 = cO 11 f5) (g8 : f5[1]? = some (vR (some at7))) (h10 : h at7 = cO 6 f9) (k : Rn d 0 0 mX6_countAfloatAt 0 [some (vR (some at7)), some (vI x3), none, none, none] [] h n (fun v h1 n1 => Rn (d + 1) bc bs mX12_crowd 23 [some (vR (some ar0)), some (vI x1), some (vI x2), some (vI x3), l4] (v.toList ++ []) h1 n1 Q)) : Rn (d + 1) (bc) (bs) mX12_crowd 12 [some (vR (some ar0)), some (vI x1), some (vI x2), some (vI x3), l4] [] h n Q := by
  refine Rn_aload_n dX12_crowd_12 rfl rfl rfl ?_
  refine Rn_getfield (ci := 12) (k := 0) dX12_crowd_13 rfl in_12 (Nat.le_of_ble_eq_true rfl) wd_460 rfl h2 g4 ?_
  refine Rn_getfield (ci := 11) (k := 1) dX12_crowd_16 rfl in_11 (Nat.le_of_ble_eq_true rfl) wd_295 rfl h6 g8 ?_
  refine Rn_iload_n dX12_crowd_19 rfl rfl ?_
  exact Rn_callV (ci := 6) (avs := [vI x3]) (st := []) (bc1 := 0) (bs1 := 0) (bc2 := bc) (bs2 := bs) fx_X6_countAfloatAt dX12_crowd_20 wd_1036 wd_917 wd_918 rfl h10 rfl (Nat.le_of_ble_eq_true rfl) (Nat.le_of_ble_eq_true rfl) (by omega) (by omega) (ls1 := [some (vR (some at7)), some (vI x3), none, none, none]) rfl k
theorem BX12_crowd_23 {d bc bs : Nat} {h : aH} {n : Nat} {Q : aQ} {r0 : Option Nat} {x1 x2 x3 s0 : Int} {l4 : Option aV} (kt : s0 ≤ x2 → Rn d bc bs mX12_crowd 36 [some (vR r0), some (vI x1), some (vI x2), some (vI x3), some (vI s0)] [] h n Q) (kf : x2 < s0 → Rn d bc bs mX12_crowd 31 [some (vR r0), some (vI x1), some (vI x2), some (vI x3), some (vI s0)] [] h n Q) : Rn d (bc) (bs) mX12_crowd 23 [some (vR r0), some (vI x1), some (vI x2), some (vI x3), l4] [vI s0] h n Q := by
  refine Rn_istore dX12_crowd_23 (Nat.le_of_ble_eq_true rfl) rfl rfl ?_
  refine Rn_iload dX12_crowd_25 rfl ?_
  refine Rn_iload_n dX12_crowd_27 rfl rfl ?_
  refine Rn_icmple (tgt := 36) dX12_crowd_28 rfl ?_ ?_
  · exact kt
  · exact kf
theorem BX12_crowd_31 {d bc bs : Nat} {h : aH} {n : Nat} {Q : aQ} {r0 : Option Nat} {x1 x2 x3 x4 : Int} (b1 : -2147483648 ≤ x3 + 1 ∧ x3 + 1 < 2147483648) (k : Rn d bc bs mX12_crowd 6 [some (vR r0), some (vI x3), some (vI x4), some (vI (x3 + 1)), some (vI x4)] [] h n Q) : Rn d (bc) (bs) mX12_crowd 31 [some (vR r0), some (vI x1), some (vI x2), some (vI x3), some (vI x4)] [] h n Q := by
  refine Rn_iload dX12_crowd_31 rfl ?_
  refine Rn_istore_n dX12_crowd_33 rfl (Nat.le_of_ble_eq_true rfl) rfl rfl ?_
  refine Rn_iload_n dX12_crowd_34 rfl rfl ?_
  refine Rn_istore_n dX12_crowd_35 rfl (Nat.le_of_ble_eq_true rfl) rfl rfl ?_
  refine Rn_iinc dX12_crowd_36 rfl (Nat.le_of_ble_eq_true rfl) rfl rfl rfl ?_
  rw [w32_id b1.1 b1.2]
  refine Rn_goto (tgt := 6) dX12_crowd_39 rfl ?_
  exact k
theorem BX12_crowd_36 {d bc bs : Nat} {h : aH} {n : Nat} {Q : aQ} {r0 : Option Nat} {x1 x2 x3 x4 : Int} (b1 : -2147483648 ≤ x3 + 1 ∧ x3 + 1 < 2147483648) (k : Rn d bc bs mX12_crowd 6 [some (vR r0), some (vI x1), some (vI x2), some (vI (x3 + 1)), some (vI x4)] [] h n Q) : Rn d (bc) (bs) mX12_crowd 36 [some (vR r0), some (vI x1), some (vI x2), some (vI x3), some (vI x4)] [] h n Q := by
  refine Rn_iinc dX12_crowd_36 rfl (Nat.le_of_ble_eq_true rfl) rfl rfl rfl ?_
  rw [w32_id b1.1 b1.2]
  refine Rn_goto (tgt := 6) dX12_crowd_39 rfl ?_
  exact k
theorem BX12_crowd_42 {d bc bs : Nat} {h : aH} {n : Nat} {Q : aQ} {r0 : Option Nat} {x1 x2 x3 : Int} {l4 : Option aV} (k : Q (some (vI x1)) h n) : Rn d (bc) (bs) mX12_crowd 42 [some (vR r0), some (vI x1), some (vI x2), some (vI x3), l4] [] h n Q := by
  refine Rn_iload_n dX12_crowd_42 rfl rfl ?_
  exact Rn_ireturn rfl dX12_crowd_43 k
theorem dX12_empty_0 : decode cX12_empty 0 = .ok (.iconst 0, 1) := by decide +kernel
theorem dX12_empty_1 : decode cX12_empty 1 = .ok (.istore_n 1, 1) := by decide +kernel
theorem dX12_empty_2 : decode cX12_empty 2 = .ok (.iconst 0, 1) := by decide +kernel
theorem dX12_empty_3 : decode cX12_empty 3 = .ok (.istore_n 2, 1) := by decide +kernel
theorem dX12_empty_4 : decode cX12_empty 4 = .ok (.iload_n 2, 1) := by decide +kernel
theorem dX12_empty_5 : decode cX12_empty 5 = .ok (.bipush 10, 2) := by decide +kernel
theorem dX12_empty_7 : decode cX12_empty 7 = .ok (.if_icmp .ge 43, 3) := by decide +kernel
theorem dX12_empty_10 : decode cX12_empty 10 = .ok (.aload_n 0, 1) := by decide +kernel
theorem dX12_empty_11 : decode cX12_empty 11 = .ok (.getfield 10, 3) := by decide +kernel
theorem dX12_empty_14 : decode cX12_empty 14 = .ok (.getfield 68, 3) := by decide +kernel
theorem dX12_empty_17 : decode cX12_empty 17 = .ok (.iload_n 2, 1) := by decide +kernel
theorem dX12_empty_18 : decode cX12_empty 18 = .ok (.invokevirtual 254, 3) := by decide +kernel
theorem dX12_empty_21 : decode cX12_empty 21 = .ok (.ifCond .ne 23, 3) := by decide +kernel
theorem dX12_empty_24 : decode cX12_empty 24 = .ok (.aload_n 0, 1) := by decide +kernel
theorem dX12_empty_25 : decode cX12_empty 25 = .ok (.getfield 10, 3) := by decide +kernel
theorem dX12_empty_28 : decode cX12_empty 28 = .ok (.getfield 128, 3) := by decide +kernel
theorem dX12_empty_31 : decode cX12_empty 31 = .ok (.iload_n 2, 1) := by decide +kernel
theorem dX12_empty_32 : decode cX12_empty 32 = .ok (.invokevirtual 251, 3) := by decide +kernel
theorem dX12_empty_35 : decode cX12_empty 35 = .ok (.ifCond .ne 9, 3) := by decide +kernel
theorem dX12_empty_38 : decode cX12_empty 38 = .ok (.iload_n 1, 1) := by decide +kernel
theorem dX12_empty_39 : decode cX12_empty 39 = .ok (.iconst 1, 1) := by decide +kernel
theorem dX12_empty_40 : decode cX12_empty 40 = .ok (.iload_n 2, 1) := by decide +kernel
theorem dX12_empty_41 : decode cX12_empty 41 = .ok (.ishl, 1) := by decide +kernel
theorem dX12_empty_42 : decode cX12_empty 42 = .ok (.ior, 1) := by decide +kernel
theorem dX12_empty_43 : decode cX12_empty 43 = .ok (.istore_n 1, 1) := by decide +kernel
theorem dX12_empty_44 : decode cX12_empty 44 = .ok (.iinc 2 1, 3) := by decide +kernel
theorem dX12_empty_47 : decode cX12_empty 47 = .ok (.goto (-43), 3) := by decide +kernel
theorem dX12_empty_50 : decode cX12_empty 50 = .ok (.iload_n 1, 1) := by decide +kernel
theorem dX12_empty_51 : decode cX12_empty 51 = .ok (.ireturn, 1) := by decide +kernel
theorem BX12_empty_0 {d bc bs : Nat} {h : aH} {n : Nat} {Q : aQ} {r0 : Option Nat} {l1 l2 : Option aV} (k : Rn d bc bs mX12_empty 4 [some (vR r0), some (vI 0), some (vI 0)] [] h n Q) : Rn d (bc) (bs) mX12_empty 0 [some (vR r0), l1, l2] [] h n Q := by
  refine Rn_iconst dX12_empty_0 rfl ?_
  refine Rn_istore_n dX12_empty_1 rfl (Nat.le_of_ble_eq_true rfl) rfl rfl ?_
  refine Rn_iconst dX12_empty_2 rfl ?_
  refine Rn_istore_n dX12_empty_3 rfl (Nat.le_of_ble_eq_true rfl) rfl rfl ?_
  exact k
theorem BX12_empty_4 {d bc bs : Nat} {h : aH} {n : Nat} {Q : aQ} {r0 : Option Nat} {x1 x2 : Int} (kt : 10 ≤ x2 → Rn d bc bs mX12_empty 50 [some (vR r0), some (vI x1), some (vI x2)] [] h n Q) (kf : x2 < 10 → Rn d bc bs mX12_empty 10 [some (vR r0), some (vI x1), some (vI x2)] [] h n Q) : Rn d (bc) (bs) mX12_empty 4 [some (vR r0), some (vI x1), some (vI x2)] [] h n Q := by
  refine Rn_iload_n dX12_empty_4 rfl rfl ?_
  refine Rn_bipush dX12_empty_5 rfl ?_
  refine Rn_icmpge (tgt := 50) dX12_empty_7 rfl ?_ ?_
  · exact kt
  · exact kf
theorem BX12_empty_10 {d bc bs : Nat} {h : aH} {n : Nat} {Q : aQ} {ar0 at3 at7 : Nat} {x1 x2 : Int} {f1 f5 f9 : List aV} (h2 : h ar0 = cO 12 f1) (g4 : f1[0]? = some (vR (some at3))) (h6 : h at3 = cO 11 f5) (g8 : f5[0]? = some (vR (some at7))) (h10 : h at7 = cO 7 f9) (k : Rn d 0 0 mX7_isInhabited 0 [some (vR (some at7)), some (vI x2), none] [] h n (fun v h1 n1 => Rn (d + 1) bc bs mX12_empty 21 [some (vR (some ar0)), some (vI x1), some (vI x2)] (v.toList ++ []) h1 n1 Q)) : Rn (d + 1) (bc) (bs) mX12_empty 10 [some (vR (some ar0)), some (vI x1), some (vI x2)] [] h n Q := by
  refine Rn_aload_n dX12_empty_10 rfl rfl rfl ?_
  refine Rn_getfield (ci := 12) (k := 0) dX12_empty_11 rfl in_12 (Nat.le_of_ble_eq_true rfl) wd_460 rfl h2 g4 ?_
  refine Rn_getfield (ci := 11) (k := 0) dX12_empty_14 rfl in_11 (Nat.le_of_ble_eq_true rfl) wd_293 rfl h6 g8 ?_
  refine Rn_iload_n dX12_empty_17 rfl rfl ?_
  exact Rn_callV (ci := 7) (avs := [vI x2]) (st := []) (bc1 := 0) (bs1 := 0) (bc2 := bc) (bs2 := bs) fx_X7_isInhabited dX12_empty_18 wd_1041 wd_1042 wd_1043 rfl h10 rfl (Nat.le_of_ble_eq_true rfl) (Nat.le_of_ble_eq_true rfl) (by omega) (by omega) (ls1 := [some (vR (some at7)), some (vI x2), none]) rfl k
theorem BX12_empty_21 {d bc bs : Nat} {h : aH} {n : Nat} {Q : aQ} {r0 : Option Nat} {x1 x2 s0 : Int} (kt : s0 ≠ 0 → Rn d bc bs mX12_empty 44 [some (vR r0), some (vI x1), some (vI x2)] [] h n Q) (kf : s0 = 0 → Rn d bc bs mX12_empty 24 [some (vR r0), some (vI x1), some (vI x2)] [] h n Q) : Rn d (bc) (bs) mX12_empty 21 [some (vR r0), some (vI x1), some (vI x2)] [vI s0] h n Q := by
  refine Rn_ifne (tgt := 44) dX12_empty_21 rfl ?_ ?_
  · exact kt
  · exact kf
theorem BX12_empty_24 {d bc bs : Nat} {h : aH} {n : Nat} {Q : aQ} {ar0 at3 at7 : Nat} {x1 x2 : Int} {f1 f5 f9 : List aV} (h2 : h ar0 = cO 12 f1) (g4 : f1[0]? = some (vR (some at3))) (h6 : h at3 = cO 11 f5) (g8 : f5[1]? = some (vR (some at7))) (h10 : h at7 = cO 6 f9) (k : Rn d 0 0 mX6_countAfloatAt 0 [some (vR (some at7)), some (vI x2), none, none, none] [] h n (fun v h1 n1 => Rn (d + 1) bc bs mX12_empty 35 [some (vR (some ar0)), some (vI x1), some (vI x2)] (v.toList ++ []) h1 n1 Q)) : Rn (d + 1) (bc) (bs) mX12_empty 24 [some (vR (some ar0)), some (vI x1), some (vI x2)] [] h n Q := by
  refine Rn_aload_n dX12_empty_24 rfl rfl rfl ?_
  refine Rn_getfield (ci := 12) (k := 0) dX12_empty_25 rfl in_12 (Nat.le_of_ble_eq_true rfl) wd_460 rfl h2 g4 ?_
  refine Rn_getfield (ci := 11) (k := 1) dX12_empty_28 rfl in_11 (Nat.le_of_ble_eq_true rfl) wd_295 rfl h6 g8 ?_
  refine Rn_iload_n dX12_empty_31 rfl rfl ?_
  exact Rn_callV (ci := 6) (avs := [vI x2]) (st := []) (bc1 := 0) (bs1 := 0) (bc2 := bc) (bs2 := bs) fx_X6_countAfloatAt dX12_empty_32 wd_1036 wd_917 wd_918 rfl h10 rfl (Nat.le_of_ble_eq_true rfl) (Nat.le_of_ble_eq_true rfl) (by omega) (by omega) (ls1 := [some (vR (some at7)), some (vI x2), none, none, none]) rfl k
theorem BX12_empty_35 {d bc bs : Nat} {h : aH} {n : Nat} {Q : aQ} {r0 : Option Nat} {x1 x2 s0 : Int} (kt : s0 ≠ 0 → Rn d bc bs mX12_empty 44 [some (vR r0), some (vI x1), some (vI x2)] [] h n Q) (kf : s0 = 0 → Rn d bc bs mX12_empty 38 [some (vR r0), some (vI x1), some (vI x2)] [] h n Q) : Rn d (bc) (bs) mX12_empty 35 [some (vR r0), some (vI x1), some (vI x2)] [vI s0] h n Q := by
  refine Rn_ifne (tgt := 44) dX12_empty_35 rfl ?_ ?_
  · exact kt
  · exact kf
theorem BX12_empty_38 {d bc bs : Nat} {h : aH} {n : Nat} {Q : aQ} {r0 : Option Nat} {x1 x2 : Int} (b1 : -2147483648 ≤ x2 + 1 ∧ x2 + 1 < 2147483648) (k : Rn d bc bs mX12_empty 4 [some (vR r0), some (vI (or32 x1 (shl32 1 x2))), some (vI (x2 + 1))] [] h n Q) : Rn d (bc) (bs) mX12_empty 38 [some (vR r0), some (vI x1), some (vI x2)] [] h n Q := by
  refine Rn_iload_n dX12_empty_38 rfl rfl ?_
  refine Rn_iconst dX12_empty_39 rfl ?_
  refine Rn_iload_n dX12_empty_40 rfl rfl ?_
  refine Rn_ishl dX12_empty_41 ?_
  refine Rn_ior dX12_empty_42 ?_
  refine Rn_istore_n dX12_empty_43 rfl (Nat.le_of_ble_eq_true rfl) rfl rfl ?_
  refine Rn_iinc dX12_empty_44 rfl (Nat.le_of_ble_eq_true rfl) rfl rfl rfl ?_
  rw [w32_id b1.1 b1.2]
  refine Rn_goto (tgt := 4) dX12_empty_47 rfl ?_
  exact k
theorem BX12_empty_44 {d bc bs : Nat} {h : aH} {n : Nat} {Q : aQ} {r0 : Option Nat} {x1 x2 : Int} (b1 : -2147483648 ≤ x2 + 1 ∧ x2 + 1 < 2147483648) (k : Rn d bc bs mX12_empty 4 [some (vR r0), some (vI x1), some (vI (x2 + 1))] [] h n Q) : Rn d (bc) (bs) mX12_empty 44 [some (vR r0), some (vI x1), some (vI x2)] [] h n Q := by
  refine Rn_iinc dX12_empty_44 rfl (Nat.le_of_ble_eq_true rfl) rfl rfl rfl ?_
  rw [w32_id b1.1 b1.2]
  refine Rn_goto (tgt := 4) dX12_empty_47 rfl ?_
  exact k
theorem BX12_empty_50 {d bc bs : Nat} {h : aH} {n : Nat} {Q : aQ} {r0 : Option Nat} {x1 x2 : Int} (k : Q (some (vI x1)) h n) : Rn d (bc) (bs) mX12_empty 50 [some (vR r0), some (vI x1), some (vI x2)] [] h n Q := by
  refine Rn_iload_n dX12_empty_50 rfl rfl ?_
  exact Rn_ireturn rfl dX12_empty_51 k
theorem dX12_ledger_0 : decode cX12_ledger 0 = .ok (.iload_n 1, 1) := by decide +kernel
theorem dX12_ledger_1 : decode cX12_ledger 1 = .ok (.iconst 0, 1) := by decide +kernel
theorem dX12_ledger_2 : decode cX12_ledger 2 = .ok (.iconst 2, 1) := by decide +kernel
theorem dX12_ledger_3 : decode cX12_ledger 3 = .ok (.invokestatic 93, 3) := by decide +kernel
theorem dX12_ledger_6 : decode cX12_ledger 6 = .ok (.ifCond .ne 6, 3) := by decide +kernel
theorem dX12_ledger_9 : decode cX12_ledger 9 = .ok (.bipush (-2), 2) := by decide +kernel
theorem dX12_ledger_11 : decode cX12_ledger 11 = .ok (.ireturn, 1) := by decide +kernel
theorem dX12_ledger_12 : decode cX12_ledger 12 = .ok (.aload_n 0, 1) := by decide +kernel
theorem dX12_ledger_13 : decode cX12_ledger 13 = .ok (.getfield 10, 3) := by decide +kernel
theorem dX12_ledger_16 : decode cX12_ledger 16 = .ok (.getfield 128, 3) := by decide +kernel
theorem dX12_ledger_19 : decode cX12_ledger 19 = .ok (.getfield 241, 3) := by decide +kernel
theorem dX12_ledger_22 : decode cX12_ledger 22 = .ok (.iload_n 1, 1) := by decide +kernel
theorem dX12_ledger_23 : decode cX12_ledger 23 = .ok (.invokevirtual 257, 3) := by decide +kernel
theorem dX12_ledger_26 : decode cX12_ledger 26 = .ok (.ireturn, 1) := by decide +kernel
theorem BX12_ledger_0 {d bc bs : Nat} {h : aH} {n : Nat} {Q : aQ} {r0 : Option Nat} {x1 : Int} (k : Rn d 0 0 mX12_within 0 [some (vI x1), some (vI 0), some (vI 2)] [] h n (fun v h1 n1 => Rn (d + 1) bc bs mX12_ledger 6 [some (vR r0), some (vI x1)] (v.toList ++ []) h1 n1 Q)) : Rn (d + 1) (bc) (bs) mX12_ledger 0 [some (vR r0), some (vI x1)] [] h n Q := by
  refine Rn_iload_n dX12_ledger_0 rfl rfl ?_
  refine Rn_iconst dX12_ledger_1 rfl ?_
  refine Rn_iconst dX12_ledger_2 rfl ?_
  exact Rn_callS (avs := [vI x1, vI 0, vI 2]) (st := []) (bc1 := 0) (bs1 := 0) (bc2 := bc) (bs2 := bs) fx_X12_within dX12_ledger_3 (Or.inl wd_502) wd_503 rfl (Nat.le_of_ble_eq_true rfl) (Nat.le_of_ble_eq_true rfl) (by omega) (by omega) (ls1 := [some (vI x1), some (vI 0), some (vI 2)]) rfl k
theorem BX12_ledger_6 {d bc bs : Nat} {h : aH} {n : Nat} {Q : aQ} {r0 : Option Nat} {x1 s0 : Int} (kt : s0 ≠ 0 → Rn d bc bs mX12_ledger 12 [some (vR r0), some (vI x1)] [] h n Q) (kf : s0 = 0 → Rn d bc bs mX12_ledger 9 [some (vR r0), some (vI x1)] [] h n Q) : Rn d (bc) (bs) mX12_ledger 6 [some (vR r0), some (vI x1)] [vI s0] h n Q := by
  refine Rn_ifne (tgt := 12) dX12_ledger_6 rfl ?_ ?_
  · exact kt
  · exact kf
theorem BX12_ledger_9 {d bc bs : Nat} {h : aH} {n : Nat} {Q : aQ} {r0 : Option Nat} {x1 : Int} (k : Q (some (vI (-2))) h n) : Rn d (bc) (bs) mX12_ledger 9 [some (vR r0), some (vI x1)] [] h n Q := by
  refine Rn_bipush dX12_ledger_9 rfl ?_
  exact Rn_ireturn rfl dX12_ledger_11 k
theorem BX12_ledger_12 {d bc bs : Nat} {h : aH} {n : Nat} {Q : aQ} {ar0 at3 at7 at11 : Nat} {x1 : Int} {f1 f5 f9 f13 : List aV} (h2 : h ar0 = cO 12 f1) (g4 : f1[0]? = some (vR (some at3))) (h6 : h at3 = cO 11 f5) (g8 : f5[1]? = some (vR (some at7))) (h10 : h at7 = cO 6 f9) (g12 : f9[1]? = some (vR (some at11))) (h14 : h at11 = cO 0 f13) (k : Rn d 0 0 mX0_countOf 0 [some (vR (some at11)), some (vI x1), none, none] [] h n (fun v h1 n1 => Rn (d + 1) bc bs mX12_ledger 26 [some (vR (some ar0)), some (vI x1)] (v.toList ++ []) h1 n1 Q)) : Rn (d + 1) (bc) (bs) mX12_ledger 12 [some (vR (some ar0)), some (vI x1)] [] h n Q := by
  refine Rn_aload_n dX12_ledger_12 rfl rfl rfl ?_
  refine Rn_getfield (ci := 12) (k := 0) dX12_ledger_13 rfl in_12 (Nat.le_of_ble_eq_true rfl) wd_460 rfl h2 g4 ?_
  refine Rn_getfield (ci := 11) (k := 1) dX12_ledger_16 rfl in_11 (Nat.le_of_ble_eq_true rfl) wd_295 rfl h6 g8 ?_
  refine Rn_getfield (ci := 6) (k := 1) dX12_ledger_19 rfl in_6 (Nat.le_of_ble_eq_true rfl) wd_204 rfl h10 g12 ?_
  refine Rn_iload_n dX12_ledger_22 rfl rfl ?_
  exact Rn_callV (ci := 0) (avs := [vI x1]) (st := []) (bc1 := 0) (bs1 := 0) (bc2 := bc) (bs2 := bs) fx_X0_countOf dX12_ledger_23 wd_1050 wd_1051 wd_1052 rfl h14 rfl (Nat.le_of_ble_eq_true rfl) (Nat.le_of_ble_eq_true rfl) (by omega) (by omega) (ls1 := [some (vR (some at11)), some (vI x1), none, none]) rfl k
theorem BX12_ledger_26 {d bc bs : Nat} {h : aH} {n : Nat} {Q : aQ} {r0 : Option Nat} {x1 s0 : Int} (k : Q (some (vI s0)) h n) : Rn d (bc) (bs) mX12_ledger 26 [some (vR r0), some (vI x1)] [vI s0] h n Q := by
  exact Rn_ireturn rfl dX12_ledger_26 k
