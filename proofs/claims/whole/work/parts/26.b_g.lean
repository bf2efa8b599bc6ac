theorem dX13_init_0 : decode cX13_init 0 = .ok (.aload_n 0, 1) := by decide +kernel
theorem dX13_init_1 : decode cX13_init 1 = .ok (.invokespecial 1, 3) := by decide +kernel
theorem dX13_init_4 : decode cX13_init 4 = .ok (.aload_n 0, 1) := by decide +kernel
theorem dX13_init_5 : decode cX13_init 5 = .ok (.sipush 3389, 3) := by decide +kernel
theorem dX13_init_8 : decode cX13_init 8 = .ok (.newarray .int, 2) := by decide +kernel
theorem dX13_init_10 : decode cX13_init 10 = .ok (.putfield 7, 3) := by decide +kernel
theorem dX13_init_13 : decode cX13_init 13 = .ok (.aload_n 0, 1) := by decide +kernel
theorem dX13_init_14 : decode cX13_init 14 = .ok (.sipush 3389, 3) := by decide +kernel
theorem dX13_init_17 : decode cX13_init 17 = .ok (.newarray .int, 2) := by decide +kernel
theorem dX13_init_19 : decode cX13_init 19 = .ok (.putfield 13, 3) := by decide +kernel
theorem dX13_init_22 : decode cX13_init 22 = .ok (.aload_n 0, 1) := by decide +kernel
theorem dX13_init_23 : decode cX13_init 23 = .ok (.sipush 2820, 3) := by decide +kernel
theorem dX13_init_26 : decode cX13_init 26 = .ok (.newarray .int, 2) := by decide +kernel
theorem dX13_init_28 : decode cX13_init 28 = .ok (.putfield 16, 3) := by decide +kernel
theorem dX13_init_31 : decode cX13_init 31 = .ok (.aload_n 0, 1) := by decide +kernel
theorem dX13_init_32 : decode cX13_init 32 = .ok (.sipush 300, 3) := by decide +kernel
theorem dX13_init_35 : decode cX13_init 35 = .ok (.newarray .int, 2) := by decide +kernel
theorem dX13_init_37 : decode cX13_init 37 = .ok (.putfield 19, 3) := by decide +kernel
theorem dX13_init_40 : decode cX13_init 40 = .ok (.aload_n 0, 1) := by decide +kernel
theorem dX13_init_41 : decode cX13_init 41 = .ok (.iconst (-1), 1) := by decide +kernel
theorem dX13_init_42 : decode cX13_init 42 = .ok (.putfield 22, 3) := by decide +kernel
theorem dX13_init_45 : decode cX13_init 45 = .ok (.aload_n 0, 1) := by decide +kernel
theorem dX13_init_46 : decode cX13_init 46 = .ok (.iconst (-1), 1) := by decide +kernel
theorem dX13_init_47 : decode cX13_init 47 = .ok (.putfield 26, 3) := by decide +kernel
theorem dX13_init_50 : decode cX13_init 50 = .ok (.aload_n 0, 1) := by decide +kernel
theorem dX13_init_51 : decode cX13_init 51 = .ok (.sipush 160, 3) := by decide +kernel
theorem dX13_init_54 : decode cX13_init 54 = .ok (.newarray .int, 2) := by decide +kernel
theorem dX13_init_56 : decode cX13_init 56 = .ok (.putfield 29, 3) := by decide +kernel
theorem dX13_init_59 : decode cX13_init 59 = .ok (.aload_n 0, 1) := by decide +kernel
theorem dX13_init_60 : decode cX13_init 60 = .ok (.bipush 8, 2) := by decide +kernel
theorem dX13_init_62 : decode cX13_init 62 = .ok (.newarray .int, 2) := by decide +kernel
theorem dX13_init_64 : decode cX13_init 64 = .ok (.putfield 32, 3) := by decide +kernel
theorem dX13_init_67 : decode cX13_init 67 = .ok (.aload_n 0, 1) := by decide +kernel
theorem dX13_init_68 : decode cX13_init 68 = .ok (.sipush 330, 3) := by decide +kernel
theorem dX13_init_71 : decode cX13_init 71 = .ok (.newarray .long, 2) := by decide +kernel
theorem dX13_init_73 : decode cX13_init 73 = .ok (.putfield 35, 3) := by decide +kernel
theorem dX13_init_76 : decode cX13_init 76 = .ok (.aload_n 0, 1) := by decide +kernel
theorem dX13_init_77 : decode cX13_init 77 = .ok (.sipush 330, 3) := by decide +kernel
theorem dX13_init_80 : decode cX13_init 80 = .ok (.newarray .boolean, 2) := by decide +kernel
theorem dX13_init_82 : decode cX13_init 82 = .ok (.putfield 39, 3) := by decide +kernel
theorem dX13_init_85 : decode cX13_init 85 = .ok (.aload_n 0, 1) := by decide +kernel
theorem dX13_init_86 : decode cX13_init 86 = .ok (.iconst 1, 1) := by decide +kernel
theorem dX13_init_87 : decode cX13_init 87 = .ok (.putfield 43, 3) := by decide +kernel
theorem dX13_init_90 : decode cX13_init 90 = .ok (.aload_n 0, 1) := by decide +kernel
theorem dX13_init_91 : decode cX13_init 91 = .ok (.bipush 83, 2) := by decide +kernel
theorem dX13_init_93 : decode cX13_init 93 = .ok (.newarray .int, 2) := by decide +kernel
theorem dX13_init_95 : decode cX13_init 95 = .ok (.putfield 47, 3) := by decide +kernel
theorem dX13_init_98 : decode cX13_init 98 = .ok (.aload_n 0, 1) := by decide +kernel
theorem dX13_init_99 : decode cX13_init 99 = .ok (.iconst 4, 1) := by decide +kernel
theorem dX13_init_100 : decode cX13_init 100 = .ok (.newarray .int, 2) := by decide +kernel
theorem dX13_init_102 : decode cX13_init 102 = .ok (.putfield 50, 3) := by decide +kernel
theorem dX13_init_105 : decode cX13_init 105 = .ok (.aload_n 0, 1) := by decide +kernel
theorem dX13_init_106 : decode cX13_init 106 = .ok (.iconst 4, 1) := by decide +kernel
theorem dX13_init_107 : decode cX13_init 107 = .ok (.newarray .int, 2) := by decide +kernel
theorem dX13_init_109 : decode cX13_init 109 = .ok (.putfield 53, 3) := by decide +kernel
theorem dX13_init_112 : decode cX13_init 112 = .ok (.aload_n 0, 1) := by decide +kernel
theorem dX13_init_113 : decode cX13_init 113 = .ok (.sipush 1000, 3) := by decide +kernel
theorem dX13_init_116 : decode cX13_init 116 = .ok (.newarray .int, 2) := by decide +kernel
theorem dX13_init_118 : decode cX13_init 118 = .ok (.putfield 56, 3) := by decide +kernel
theorem dX13_init_121 : decode cX13_init 121 = .ok (.aload_n 0, 1) := by decide +kernel
theorem dX13_init_122 : decode cX13_init 122 = .ok (.bipush 10, 2) := by decide +kernel
theorem dX13_init_124 : decode cX13_init 124 = .ok (.newarray .long, 2) := by decide +kernel
theorem dX13_init_126 : decode cX13_init 126 = .ok (.putfield 59, 3) := by decide +kernel
theorem dX13_init_129 : decode cX13_init 129 = .ok (.aload_n 0, 1) := by decide +kernel
theorem dX13_init_130 : decode cX13_init 130 = .ok (.bipush 8, 2) := by decide +kernel
theorem dX13_init_132 : decode cX13_init 132 = .ok (.newarray .int, 2) := by decide +kernel
theorem dX13_init_134 : decode cX13_init 134 = .ok (.putfield 62, 3) := by decide +kernel
theorem dX13_init_137 : decode cX13_init 137 = .ok (.aload_n 0, 1) := by decide +kernel
theorem dX13_init_138 : decode cX13_init 138 = .ok (.sipush 256, 3) := by decide +kernel
theorem dX13_init_141 : decode cX13_init 141 = .ok (.newarray .long, 2) := by decide +kernel
theorem dX13_init_143 : decode cX13_init 143 = .ok (.putfield 65, 3) := by decide +kernel
theorem dX13_init_146 : decode cX13_init 146 = .ok (.aload_n 0, 1) := by decide +kernel
theorem dX13_init_147 : decode cX13_init 147 = .ok (.getfield 7, 3) := by decide +kernel
theorem dX13_init_150 : decode cX13_init 150 = .ok (.bipush 8, 2) := by decide +kernel
theorem dX13_init_152 : decode cX13_init 152 = .ok (.sipush 227, 3) := by decide +kernel
theorem dX13_init_155 : decode cX13_init 155 = .ok (.iastore, 1) := by decide +kernel
theorem dX13_init_156 : decode cX13_init 156 = .ok (.aload_n 0, 1) := by decide +kernel
theorem dX13_init_157 : decode cX13_init 157 = .ok (.getfield 7, 3) := by decide +kernel
theorem dX13_init_160 : decode cX13_init 160 = .ok (.iconst 2, 1) := by decide +kernel
theorem dX13_init_161 : decode cX13_init 161 = .ok (.iconst (-1), 1) := by decide +kernel
theorem dX13_init_162 : decode cX13_init 162 = .ok (.iastore, 1) := by decide +kernel
theorem dX13_init_163 : decode cX13_init 163 = .ok (.iconst 0, 1) := by decide +kernel
theorem dX13_init_164 : decode cX13_init 164 = .ok (.istore_n 1, 1) := by decide +kernel
theorem dX13_init_165 : decode cX13_init 165 = .ok (.iload_n 1, 1) := by decide +kernel
theorem dX13_init_166 : decode cX13_init 166 = .ok (.bipush 10, 2) := by decide +kernel
theorem dX13_init_168 : decode cX13_init 168 = .ok (.if_icmp .ge 49, 3) := by decide +kernel
theorem dX13_init_171 : decode cX13_init 171 = .ok (.aload_n 0, 1) := by decide +kernel
theorem dX13_init_172 : decode cX13_init 172 = .ok (.getfield 7, 3) := by decide +kernel
theorem dX13_init_175 : decode cX13_init 175 = .ok (.bipush 95, 2) := by decide +kernel
theorem dX13_init_177 : decode cX13_init 177 = .ok (.iload_n 1, 1) := by decide +kernel
theorem dX13_init_178 : decode cX13_init 178 = .ok (.iadd, 1) := by decide +kernel
theorem dX13_init_179 : decode cX13_init 179 = .ok (.iload_n 1, 1) := by decide +kernel
theorem dX13_init_180 : decode cX13_init 180 = .ok (.iconst 1, 1) := by decide +kernel
theorem dX13_init_181 : decode cX13_init 181 = .ok (.iadd, 1) := by decide +kernel
theorem dX13_init_182 : decode cX13_init 182 = .ok (.bipush 10, 2) := by decide +kernel
theorem dX13_init_184 : decode cX13_init 184 = .ok (.irem, 1) := by decide +kernel
theorem dX13_init_185 : decode cX13_init 185 = .ok (.iastore, 1) := by decide +kernel
theorem dX13_init_186 : decode cX13_init 186 = .ok (.aload_n 0, 1) := by decide +kernel
theorem dX13_init_187 : decode cX13_init 187 = .ok (.getfield 7, 3) := by decide +kernel
theorem dX13_init_190 : decode cX13_init 190 = .ok (.bipush 105, 2) := by decide +kernel
theorem dX13_init_192 : decode cX13_init 192 = .ok (.iload_n 1, 1) := by decide +kernel
theorem dX13_init_193 : decode cX13_init 193 = .ok (.iadd, 1) := by decide +kernel
theorem dX13_init_194 : decode cX13_init 194 = .ok (.iload_n 1, 1) := by decide +kernel
theorem dX13_init_195 : decode cX13_init 195 = .ok (.iconst 3, 1) := by decide +kernel
theorem dX13_init_196 : decode cX13_init 196 = .ok (.iadd, 1) := by decide +kernel
theorem dX13_init_197 : decode cX13_init 197 = .ok (.bipush 10, 2) := by decide +kernel
theorem dX13_init_199 : decode cX13_init 199 = .ok (.irem, 1) := by decide +kernel
theorem dX13_init_200 : decode cX13_init 200 = .ok (.iastore, 1) := by decide +kernel
theorem dX13_init_201 : decode cX13_init 201 = .ok (.aload_n 0, 1) := by decide +kernel
theorem dX13_init_202 : decode cX13_init 202 = .ok (.getfield 7, 3) := by decide +kernel
theorem dX13_init_205 : decode cX13_init 205 = .ok (.bipush 115, 2) := by decide +kernel
theorem dX13_init_207 : decode cX13_init 207 = .ok (.iload_n 1, 1) := by decide +kernel
theorem dX13_init_208 : decode cX13_init 208 = .ok (.iadd, 1) := by decide +kernel
theorem dX13_init_209 : decode cX13_init 209 = .ok (.iload_n 1, 1) := by decide +kernel
theorem dX13_init_210 : decode cX13_init 210 = .ok (.iastore, 1) := by decide +kernel
theorem dX13_init_211 : decode cX13_init 211 = .ok (.iinc 1 1, 3) := by decide +kernel
theorem dX13_init_214 : decode cX13_init 214 = .ok (.goto (-49), 3) := by decide +kernel
theorem dX13_init_217 : decode cX13_init 217 = .ok (.aload_n 0, 1) := by decide +kernel
theorem dX13_init_218 : decode cX13_init 218 = .ok (.getfield 7, 3) := by decide +kernel
theorem dX13_init_221 : decode cX13_init 221 = .ok (.sipush 145, 3) := by decide +kernel
theorem dX13_init_224 : decode cX13_init 224 = .ok (.iconst 5, 1) := by decide +kernel
theorem dX13_init_225 : decode cX13_init 225 = .ok (.iastore, 1) := by decide +kernel
theorem dX13_init_226 : decode cX13_init 226 = .ok (.aload_n 0, 1) := by decide +kernel
theorem dX13_init_227 : decode cX13_init 227 = .ok (.getfield 7, 3) := by decide +kernel
theorem dX13_init_230 : decode cX13_init 230 = .ok (.sipush 146, 3) := by decide +kernel
theorem dX13_init_233 : decode cX13_init 233 = .ok (.iconst 1, 1) := by decide +kernel
theorem dX13_init_234 : decode cX13_init 234 = .ok (.iastore, 1) := by decide +kernel
theorem dX13_init_235 : decode cX13_init 235 = .ok (.aload_n 0, 1) := by decide +kernel
theorem dX13_init_236 : decode cX13_init 236 = .ok (.getfield 7, 3) := by decide +kernel
theorem dX13_init_239 : decode cX13_init 239 = .ok (.aload_n 0, 1) := by decide +kernel
theorem dX13_init_240 : decode cX13_init 240 = .ok (.getfield 13, 3) := by decide +kernel
theorem dX13_init_243 : decode cX13_init 243 = .ok (.invokestatic 68, 3) := by decide +kernel
theorem dX13_init_246 : decode cX13_init 246 = .ok (.return_, 1) := by decide +kernel
theorem BX13_init_0 {d bc bs : Nat} {h : aH} {n : Nat} {Q : aQ} {ar0 : Nat} {l1 : Option aV} (k : Rn (d + 1) bc bs mX13_init 10 [some (vR (some ar0)), l1] [vR (some n), vR (some ar0)] (up h n (cI (List.replicate 3389 0))) (n + 1) Q) : Rn (d + 1) (bc + 1) (bs + 3389) mX13_init 0 [some (vR (some ar0)), l1] [] h n Q := by
  refine Rn_aload_n dX13_init_0 rfl rfl rfl ?_
  refine Rn_objInit dX13_init_1 wd_1348 wd_149 wd_150 (Nat.le_of_ble_eq_true rfl) ?_
  refine Rn_aload_n dX13_init_4 rfl rfl rfl ?_
  refine Rn_sipush dX13_init_5 rfl ?_
  refine Rn_newarrI (N := 3389) (bc := bc) (bs := bs) (by omega) (by omega) wd_181 dX13_init_8 (by decide) ?_
  exact k
theorem BX13_init_10 {d bc bs : Nat} {h : aH} {n : Nat} {Q : aQ} {r0 q1 : Option Nat} {l1 : Option aV} {aq0 : Nat} {f1 : List aV} (h2 : h aq0 = cO 13 f1) (m3 : 0 < f1.length) (k : Rn d bc bs mX13_init 13 [some (vR r0), l1] [] (up h aq0 (cO 13 (f1.set 0 (vR q1)))) n Q) : Rn d (bc) (bs) mX13_init 10 [some (vR r0), l1] [vR q1, vR (some aq0)] h n Q := by
  refine Rn_putfield (ci := 13) (k := 0) dX13_init_10 rfl in_13 tyX13_ok nmX13 (Nat.le_of_ble_eq_true rfl) wd_1352 rfl (Or.inr ⟨rfl, rfl⟩) trivial m3 h2 ?_
  exact k
theorem BX13_init_13 {d bc bs : Nat} {h : aH} {n : Nat} {Q : aQ} {r0 : Option Nat} {l1 : Option aV} (k : Rn d bc bs mX13_init 19 [some (vR r0), l1] [vR (some n), vR r0] (up h n (cI (List.replicate 3389 0))) (n + 1) Q) : Rn d (bc + 1) (bs + 3389) mX13_init 13 [some (vR r0), l1] [] h n Q := by
  refine Rn_aload_n dX13_init_13 rfl rfl rfl ?_
  refine Rn_sipush dX13_init_14 rfl ?_
  refine Rn_newarrI (N := 3389) (bc := bc) (bs := bs) (by omega) (by omega) wd_181 dX13_init_17 (by decide) ?_
  exact k
theorem BX13_init_19 {d bc bs : Nat} {h : aH} {n : Nat} {Q : aQ} {r0 q1 : Option Nat} {l1 : Option aV} {aq0 : Nat} {f1 : List aV} (h2 : h aq0 = cO 13 f1) (m3 : 1 < f1.length) (k : Rn d bc bs mX13_init 22 [some (vR r0), l1] [] (up h aq0 (cO 13 (f1.set 1 (vR q1)))) n Q) : Rn d (bc) (bs) mX13_init 19 [some (vR r0), l1] [vR q1, vR (some aq0)] h n Q := by
  refine Rn_putfield (ci := 13) (k := 1) dX13_init_19 rfl in_13 tyX13_ok nmX13 (Nat.le_of_ble_eq_true rfl) wd_1353 rfl (Or.inr ⟨rfl, rfl⟩) trivial m3 h2 ?_
  exact k
theorem BX13_init_22 {d bc bs : Nat} {h : aH} {n : Nat} {Q : aQ} {r0 : Option Nat} {l1 : Option aV} (k : Rn d bc bs mX13_init 28 [some (vR r0), l1] [vR (some n), vR r0] (up h n (cI (List.replicate 2820 0))) (n + 1) Q) : Rn d (bc + 1) (bs + 2820) mX13_init 22 [some (vR r0), l1] [] h n Q := by
  refine Rn_aload_n dX13_init_22 rfl rfl rfl ?_
  refine Rn_sipush dX13_init_23 rfl ?_
  refine Rn_newarrI (N := 2820) (bc := bc) (bs := bs) (by omega) (by omega) wd_181 dX13_init_26 (by decide) ?_
  exact k
theorem BX13_init_28 {d bc bs : Nat} {h : aH} {n : Nat} {Q : aQ} {r0 q1 : Option Nat} {l1 : Option aV} {aq0 : Nat} {f1 : List aV} (h2 : h aq0 = cO 13 f1) (m3 : 2 < f1.length) (k : Rn d bc bs mX13_init 31 [some (vR r0), l1] [] (up h aq0 (cO 13 (f1.set 2 (vR q1)))) n Q) : Rn d (bc) (bs) mX13_init 28 [some (vR r0), l1] [vR q1, vR (some aq0)] h n Q := by
  refine Rn_putfield (ci := 13) (k := 2) dX13_init_28 rfl in_13 tyX13_ok nmX13 (Nat.le_of_ble_eq_true rfl) wd_1354 rfl (Or.inr ⟨rfl, rfl⟩) trivial m3 h2 ?_
  exact k
theorem BX13_init_31 {d bc bs : Nat} {h : aH} {n : Nat} {Q : aQ} {r0 : Option Nat} {l1 : Option aV} (k : Rn d bc bs mX13_init 37 [some (vR r0), l1] [vR (some n), vR r0] (up h n (cI (List.replicate 300 0))) (n + 1) Q) : Rn d (bc + 1) (bs + 300) mX13_init 31 [some (vR r0), l1] [] h n Q := by
  refine Rn_aload_n dX13_init_31 rfl rfl rfl ?_
  refine Rn_sipush dX13_init_32 rfl ?_
  refine Rn_newarrI (N := 300) (bc := bc) (bs := bs) (by omega) (by omega) wd_181 dX13_init_35 (by decide) ?_
  exact k
theorem BX13_init_37 {d bc bs : Nat} {h : aH} {n : Nat} {Q : aQ} {r0 q1 : Option Nat} {l1 : Option aV} {aq0 : Nat} {f1 : List aV} (h2 : h aq0 = cO 13 f1) (m3 : 3 < f1.length) (k : Rn d bc bs mX13_init 40 [some (vR r0), l1] [] (up h aq0 (cO 13 (f1.set 3 (vR q1)))) n Q) : Rn d (bc) (bs) mX13_init 37 [some (vR r0), l1] [vR q1, vR (some aq0)] h n Q := by
  refine Rn_putfield (ci := 13) (k := 3) dX13_init_37 rfl in_13 tyX13_ok nmX13 (Nat.le_of_ble_eq_true rfl) wd_1355 rfl (Or.inr ⟨rfl, rfl⟩) trivial m3 h2 ?_
  exact k
theorem BX13_init_40 {d bc bs : Nat} {h : aH} {n : Nat} {Q : aQ} {ar0 : Nat} {l1 : Option aV} {f1 : List aV} (h2 : h ar0 = cO 13 f1) (m3 : 5 < f1.length) (k : Rn d bc bs mX13_init 45 [some (vR (some ar0)), l1] [] (up h ar0 (cO 13 (f1.set 5 (vI (-1))))) n Q) : Rn d (bc) (bs) mX13_init 40 [some (vR (some ar0)), l1] [] h n Q := by
  refine Rn_aload_n dX13_init_40 rfl rfl rfl ?_
  refine Rn_iconst dX13_init_41 rfl ?_
  refine Rn_putfield (ci := 13) (k := 5) dX13_init_42 rfl in_13 tyX13_ok nmX13 (Nat.le_of_ble_eq_true rfl) wd_1357 rfl (Or.inl rfl) trivial m3 h2 ?_
  exact k
theorem BX13_init_45 {d bc bs : Nat} {h : aH} {n : Nat} {Q : aQ} {ar0 : Nat} {l1 : Option aV} {f1 : List aV} (h2 : h ar0 = cO 13 f1) (m3 : 6 < f1.length) (k : Rn d bc bs mX13_init 50 [some (vR (some ar0)), l1] [] (up h ar0 (cO 13 (f1.set 6 (vI (-1))))) n Q) : Rn d (bc) (bs) mX13_init 45 [some (vR (some ar0)), l1] [] h n Q := by
  refine Rn_aload_n dX13_init_45 rfl rfl rfl ?_
  refine Rn_iconst dX13_init_46 rfl ?_
  refine Rn_putfield (ci := 13) (k := 6) dX13_init_47 rfl in_13 tyX13_ok nmX13 (Nat.le_of_ble_eq_true rfl) wd_1358 rfl (Or.inl rfl) trivial m3 h2 ?_
  exact k
theorem BX13_init_50 {d bc bs : Nat} {h : aH} {n : Nat} {Q : aQ} {r0 : Option Nat} {l1 : Option aV} (k : Rn d bc bs mX13_init 56 [some (vR r0), l1] [vR (some n), vR r0] (up h n (cI (List.replicate 160 0))) (n + 1) Q) : Rn d (bc + 1) (bs + 160) mX13_init 50 [some (vR r0), l1] [] h n Q := by
  refine Rn_aload_n dX13_init_50 rfl rfl rfl ?_
  refine Rn_sipush dX13_init_51 rfl ?_
  refine Rn_newarrI (N := 160) (bc := bc) (bs := bs) (by omega) (by omega) wd_181 dX13_init_54 (by decide) ?_
  exact k
theorem BX13_init_56 {d bc bs : Nat} {h : aH} {n : Nat} {Q : aQ} {r0 q1 : Option Nat} {l1 : Option aV} {aq0 : Nat} {f1 : List aV} (h2 : h aq0 = cO 13 f1) (m3 : 15 < f1.length) (k : Rn d bc bs mX13_init 59 [some (vR r0), l1] [] (up h aq0 (cO 13 (f1.set 15 (vR q1)))) n Q) : Rn d (bc) (bs) mX13_init 56 [some (vR r0), l1] [vR q1, vR (some aq0)] h n Q := by
  refine Rn_putfield (ci := 13) (k := 15) dX13_init_56 rfl in_13 tyX13_ok nmX13 (Nat.le_of_ble_eq_true rfl) wd_1367 rfl (Or.inr ⟨rfl, rfl⟩) trivial m3 h2 ?_
  exact k
theorem BX13_init_59 {d bc bs : Nat} {h : aH} {n : Nat} {Q : aQ} {r0 : Option Nat} {l1 : Option aV} (k : Rn d bc bs mX13_init 64 [some (vR r0), l1] [vR (some n), vR r0] (up h n (cI (List.replicate 8 0))) (n + 1) Q) : Rn d (bc + 1) (bs + 8) mX13_init 59 [some (vR r0), l1] [] h n Q := by
  refine Rn_aload_n dX13_init_59 rfl rfl rfl ?_
  refine Rn_bipush dX13_init_60 rfl ?_
  refine Rn_newarrI (N := 8) (bc := bc) (bs := bs) (by omega) (by omega) wd_181 dX13_init_62 (by decide) ?_
  exact k
theorem BX13_init_64 {d bc bs : Nat} {h : aH} {n : Nat} {Q : aQ} {r0 q1 : Option Nat} {l1 : Option aV} {aq0 : Nat} {f1 : List aV} (h2 : h aq0 = cO 13 f1) (m3 : 20 < f1.length) (k : Rn d bc bs mX13_init 67 [some (vR r0), l1] [] (up h aq0 (cO 13 (f1.set 20 (vR q1)))) n Q) : Rn d (bc) (bs) mX13_init 64 [some (vR r0), l1] [vR q1, vR (some aq0)] h n Q := by
  refine Rn_putfield (ci := 13) (k := 20) dX13_init_64 rfl in_13 tyX13_ok nmX13 (Nat.le_of_ble_eq_true rfl) wd_1372 rfl (Or.inr ⟨rfl, rfl⟩) trivial m3 h2 ?_
  exact k
theorem BX13_init_67 {d bc bs : Nat} {h : aH} {n : Nat} {Q : aQ} {r0 : Option Nat} {l1 : Option aV} (k : Rn d bc bs mX13_init 73 [some (vR r0), l1] [vR (some n), vR r0] (up h n (cJ (List.replicate 330 0))) (n + 1) Q) : Rn d (bc + 1) (bs + 330) mX13_init 67 [some (vR r0), l1] [] h n Q := by
  refine Rn_aload_n dX13_init_67 rfl rfl rfl ?_
  refine Rn_sipush dX13_init_68 rfl ?_
  refine Rn_newarrJ (N := 330) (bc := bc) (bs := bs) (by omega) (by omega) wd_457 dX13_init_71 (by decide) ?_
  exact k
theorem BX13_init_73 {d bc bs : Nat} {h : aH} {n : Nat} {Q : aQ} {r0 q1 : Option Nat} {l1 : Option aV} {aq0 : Nat} {f1 : List aV} (h2 : h aq0 = cO 13 f1) (m3 : 21 < f1.length) (k : Rn d bc bs mX13_init 76 [some (vR r0), l1] [] (up h aq0 (cO 13 (f1.set 21 (vR q1)))) n Q) : Rn d (bc) (bs) mX13_init 73 [some (vR r0), l1] [vR q1, vR (some aq0)] h n Q := by
  refine Rn_putfield (ci := 13) (k := 21) dX13_init_73 rfl in_13 tyX13_ok nmX13 (Nat.le_of_ble_eq_true rfl) wd_1373 rfl (Or.inr ⟨rfl, rfl⟩) trivial m3 h2 ?_
  exact k
theorem BX13_init_76 {d bc bs : Nat} {h : aH} {n : Nat} {Q : aQ} {r0 : Option Nat} {l1 : Option aV} (k : Rn d bc bs mX13_init 82 [some (vR r0), l1] [vR (some n), vR r0] (up h n (cZ (List.replicate 330 0))) (n + 1) Q) : Rn d (bc + 1) (bs + 330) mX13_init 76 [some (vR r0), l1] [] h n Q := by
  refine Rn_aload_n dX13_init_76 rfl rfl rfl ?_
  refine Rn_sipush dX13_init_77 rfl ?_
  refine Rn_newarrZ (N := 330) (bc := bc) (bs := bs) (by omega) (by omega) wd_1455 dX13_init_80 (by decide) ?_
  exact k
theorem BX13_init_82 {d bc bs : Nat} {h : aH} {n : Nat} {Q : aQ} {r0 q1 : Option Nat} {l1 : Option aV} {aq0 : Nat} {f1 : List aV} (h2 : h aq0 = cO 13 f1) (m3 : 22 < f1.length) (k : Rn d bc bs mX13_init 85 [some (vR r0), l1] [] (up h aq0 (cO 13 (f1.set 22 (vR q1)))) n Q) : Rn d (bc) (bs) mX13_init 82 [some (vR r0), l1] [vR q1, vR (some aq0)] h n Q := by
  refine Rn_putfield (ci := 13) (k := 22) dX13_init_82 rfl in_13 tyX13_ok nmX13 (Nat.le_of_ble_eq_true rfl) wd_1374 rfl (Or.inr ⟨rfl, rfl⟩) trivial m3 h2 ?_
  exact k
theorem BX13_init_85 {d bc bs : Nat} {h : aH} {n : Nat} {Q : aQ} {ar0 : Nat} {l1 : Option aV} {f1 : List aV} (h2 : h ar0 = cO 13 f1) (m3 : 23 < f1.length) (k : Rn d bc bs mX13_init 90 [some (vR (some ar0)), l1] [] (up h ar0 (cO 13 (f1.set 23 (vI 1)))) n Q) : Rn d (bc) (bs) mX13_init 85 [some (vR (some ar0)), l1] [] h n Q := by
  refine Rn_aload_n dX13_init_85 rfl rfl rfl ?_
  refine Rn_iconst dX13_init_86 rfl ?_
  refine Rn_putfield (ci := 13) (k := 23) dX13_init_87 rfl in_13 tyX13_ok nmX13 (Nat.le_of_ble_eq_true rfl) wd_1375 rfl (Or.inl rfl) (show (1 : Int) = 0 ∨ (1 : Int) = 1 by decide) m3 h2 ?_
  exact k
theorem BX13_init_90 {d bc bs : Nat} {h : aH} {n : Nat} {Q : aQ} {r0 : Option Nat} {l1 : Option aV} (k : Rn d bc bs mX13_init 95 [some (vR r0), l1] [vR (some n), vR r0] (up h n (cI (List.replicate 83 0))) (n + 1) Q) : Rn d (bc + 1) (bs + 83) mX13_init 90 [some (vR r0), l1] [] h n Q := by
  refine Rn_aload_n dX13_init_90 rfl rfl rfl ?_
  refine Rn_bipush dX13_init_91 rfl ?_
  refine Rn_newarrI (N := 83) (bc := bc) (bs := bs) (by omega) (by omega) wd_181 dX13_init_93 (by decide) ?_
  exact k
theorem BX13_init_95 {d bc bs : Nat} {h : aH} {n : Nat} {Q : aQ} {r0 q1 : Option Nat} {l1 : Option aV} {aq0 : Nat} {f1 : List aV} (h2 : h aq0 = cO 13 f1) (m3 : 25 < f1.length) (k : Rn d bc bs mX13_init 98 [some (vR r0), l1] [] (up h aq0 (cO 13 (f1.set 25 (vR q1)))) n Q) : Rn d (bc) (bs) mX13_init 95 [some (vR r0), l1] [vR q1, vR (some aq0)] h n Q := by
  refine Rn_putfield (ci := 13) (k := 25) dX13_init_95 rfl in_13 tyX13_ok nmX13 (Nat.le_of_ble_eq_true rfl) wd_1377 rfl (Or.inr ⟨rfl, rfl⟩) trivial m3 h2 ?_
  exact k
theorem BX13_init_98 {d bc bs : Nat} {h : aH} {n : Nat} {Q : aQ} {r0 : Option Nat} {l1 : Option aV} (k : Rn d bc bs mX13_init 102 [some (vR r0), l1] [vR (some n), vR r0] (up h n (cI (List.replicate 4 0))) (n + 1) Q) : Rn d (bc + 1) (bs + 4) mX13_init 98 [some (vR r0), l1] [] h n Q := by
  refine Rn_aload_n dX13_init_98 rfl rfl rfl ?_
  refine Rn_iconst dX13_init_99 rfl ?_
  refine Rn_newarrI (N := 4) (bc := bc) (bs := bs) (by omega) (by omega) wd_181 dX13_init_100 (by decide) ?_
  exact k
theorem BX13_init_102 {d bc bs : Nat} {h : aH} {n : Nat} {Q : aQ} {r0 q1 : Option Nat} {l1 : Option aV} {aq0 : Nat} {f1 : List aV} (h2 : h aq0 = cO 13 f1) (m3 : 26 < f1.length) (k : Rn d bc bs mX13_init 105 [some (vR r0), l1] [] (up h aq0 (cO 13 (f1.set 26 (vR q1)))) n Q) : Rn d (bc) (bs) mX13_init 102 [some (vR r0), l1] [vR q1, vR (some aq0)] h n Q := by
  refine Rn_putfield (ci := 13) (k := 26) dX13_init_102 rfl in_13 tyX13_ok nmX13 (Nat.le_of_ble_eq_true rfl) wd_1378 rfl (Or.inr ⟨rfl, rfl⟩) trivial m3 h2 ?_
  exact k
theorem BX13_init_105 {d bc bs : Nat} {h : aH} {n : Nat} {Q : aQ} {r0 : Option Nat} {l1 : Option aV} (k : Rn d bc bs mX13_init 109 [some (vR r0), l1] [vR (some n), vR r0] (up h n (cI (List.replicate 4 0))) (n + 1) Q) : Rn d (bc + 1) (bs + 4) mX13_init 105 [some (vR r0), l1] [] h n Q := by
  refine Rn_aload_n dX13_init_105 rfl rfl rfl ?_
  refine Rn_iconst dX13_init_106 rfl ?_
  refine Rn_newarrI (N := 4) (bc := bc) (bs := bs) (by omega) (by omega) wd_181 dX13_init_107 (by decide) ?_
  exact k
theorem BX13_init_109 {d bc bs : Nat} {h : aH} {n : Nat} {Q : aQ} {r0 q1 : Option Nat} {l1 : Option aV} {aq0 : Nat} {f1 : List aV} (h2 : h aq0 = cO 13 f1) (m3 : 27 < f1.length) (k : Rn d bc bs mX13_init 112 [some (vR r0), l1] [] (up h aq0 (cO 13 (f1.set 27 (vR q1)))) n Q) : Rn d (bc) (bs) mX13_init 109 [some (vR r0), l1] [vR q1, vR (some aq0)] h n Q := by
  refine Rn_putfield (ci := 13) (k := 27) dX13_init_109 rfl in_13 tyX13_ok nmX13 (Nat.le_of_ble_eq_true rfl) wd_1379 rfl (Or.inr ⟨rfl, rfl⟩) trivial m3 h2 ?_
  exact k
theorem BX13_init_112 {d bc bs : Nat} {h : aH} {n : Nat} {Q : aQ} {r0 : Option Nat} {l1 : Option aV} (k : Rn d bc bs mX13_init 118 [some (vR r0), l1] [vR (some n), vR r0] (up h n (cI (List.replicate 1000 0))) (n + 1) Q) : Rn d (bc + 1) (bs + 1000) mX13_init 112 [some (vR r0), l1] [] h n Q := by
  refine Rn_aload_n dX13_init_112 rfl rfl rfl ?_
  refine Rn_sipush dX13_init_113 rfl ?_
  refine Rn_newarrI (N := 1000) (bc := bc) (bs := bs) (by omega) (by omega) wd_181 dX13_init_116 (by decide) ?_
  exact k
theorem BX13_init_118 {d bc bs : Nat} {h : aH} {n : Nat} {Q : aQ} {r0 q1 : Option Nat} {l1 : Option aV} {aq0 : Nat} {f1 : List aV} (h2 : h aq0 = cO 13 f1) (m3 : 30 < f1.length) (k : Rn d bc bs mX13_init 121 [some (vR r0), l1] [] (up h aq0 (cO 13 (f1.set 30 (vR q1)))) n Q) : Rn d (bc) (bs) mX13_init 118 [some (vR r0), l1] [vR q1, vR (some aq0)] h n Q := by
  refine Rn_putfield (ci := 13) (k := 30) dX13_init_118 rfl in_13 tyX13_ok nmX13 (Nat.le_of_ble_eq_true rfl) wd_1382 rfl (Or.inr ⟨rfl, rfl⟩) trivial m3 h2 ?_
  exact k
theorem BX13_init_121 {d bc bs : Nat} {h : aH} {n : Nat} {Q : aQ} {r0 : Option Nat} {l1 : Option aV} (k : Rn d bc bs mX13_init 126 [some (vR r0), l1] [vR (some n), vR r0] (up h n (cJ (List.replicate 10 0))) (n + 1) Q) : Rn d (bc + 1) (bs + 10) mX13_init 121 [some (vR r0), l1] [] h n Q := by
  refine Rn_aload_n dX13_init_121 rfl rfl rfl ?_
  refine Rn_bipush dX13_init_122 rfl ?_
  refine Rn_newarrJ (N := 10) (bc := bc) (bs := bs) (by omega) (by omega) wd_457 dX13_init_124 (by decide) ?_
  exact k
theorem BX13_init_126 {d bc bs : Nat} {h : aH} {n : Nat} {Q : aQ} {r0 q1 : Option Nat} {l1 : Option aV} {aq0 : Nat} {f1 : List aV} (h2 : h aq0 = cO 13 f1) (m3 : 31 < f1.length) (k : Rn d bc bs mX13_init 129 [some (vR r0), l1] [] (up h aq0 (cO 13 (f1.set 31 (vR q1)))) n Q) : Rn d (bc) (bs) mX13_init 126 [some (vR r0), l1] [vR q1, vR (some aq0)] h n Q := by
  refine Rn_putfield (ci := 13) (k := 31) dX13_init_126 rfl in_13 tyX13_ok nmX13 (Nat.le_of_ble_eq_true rfl) wd_1383 rfl (Or.inr ⟨rfl, rfl⟩) trivial m3 h2 ?_
  exact k
theorem BX13_init_129 {d bc bs : Nat} {h : aH} {n : Nat} {Q : aQ} {r0 : Option Nat} {l1 : Option aV} (k : Rn d bc bs mX13_init 134 [some (vR r0), l1] [vR (some n), vR r0] (up h n (cI (List.replicate 8 0))) (n + 1) Q) : Rn d (bc + 1) (bs + 8) mX13_init 129 [some (vR r0), l1] [] h n Q := by
  refine Rn_aload_n dX13_init_129 rfl rfl rfl ?_
  refine Rn_bipush dX13_init_130 rfl ?_
  refine Rn_newarrI (N := 8) (bc := bc) (bs := bs) (by omega) (by omega) wd_181 dX13_init_132 (by decide) ?_
  exact k
theorem BX13_init_134 {d bc bs : Nat} {h : aH} {n : Nat} {Q : aQ} {r0 q1 : Option Nat} {l1 : Option aV} {aq0 : Nat} {f1 : List aV} (h2 : h aq0 = cO 13 f1) (m3 : 32 < f1.length) (k : Rn d bc bs mX13_init 137 [some (vR r0), l1] [] (up h aq0 (cO 13 (f1.set 32 (vR q1)))) n Q) : Rn d (bc) (bs) mX13_init 134 [some (vR r0), l1] [vR q1, vR (some aq0)] h n Q := by
  refine Rn_putfield (ci := 13) (k := 32) dX13_init_134 rfl in_13 tyX13_ok nmX13 (Nat.le_of_ble_eq_true rfl) wd_1384 rfl (Or.inr ⟨rfl, rfl⟩) trivial m3 h2 ?_
  exact k
theorem BX13_init_137 {d bc bs : Nat} {h : aH} {n : Nat} {Q : aQ} {r0 : Option Nat} {l1 : Option aV} (k : Rn d bc bs mX13_init 143 [some (vR r0), l1] [vR (some n), vR r0] (up h n (cJ (List.replicate 256 0))) (n + 1) Q) : Rn d (bc + 1) (bs + 256) mX13_init 137 [some (vR r0), l1] [] h n Q := by
  refine Rn_aload_n dX13_init_137 rfl rfl rfl ?_
  refine Rn_sipush dX13_init_138 rfl ?_
  refine Rn_newarrJ (N := 256) (bc := bc) (bs := bs) (by omega) (by omega) wd_457 dX13_init_141 (by decide) ?_
  exact k
theorem BX13_init_143 {d bc bs : Nat} {h : aH} {n : Nat} {Q : aQ} {r0 q1 : Option Nat} {l1 : Option aV} {aq0 : Nat} {f1 : List aV} (h2 : h aq0 = cO 13 f1) (m3 : 33 < f1.length) (k : Rn d bc bs mX13_init 146 [some (vR r0), l1] [] (up h aq0 (cO 13 (f1.set 33 (vR q1)))) n Q) : Rn d (bc) (bs) mX13_init 143 [some (vR r0), l1] [vR q1, vR (some aq0)] h n Q := by
  refine Rn_putfield (ci := 13) (k := 33) dX13_init_143 rfl in_13 tyX13_ok nmX13 (Nat.le_of_ble_eq_true rfl) wd_1385 rfl (Or.inr ⟨rfl, rfl⟩) trivial m3 h2 ?_
  exact k
theorem BX13_init_146 {d bc bs : Nat} {h : aH} {n : Nat} {Q : aQ} {ar0 at3 : Nat} {l1 : Option aV} {f1 : List aV} {w5 : List Int} (h2 : h ar0 = cO 13 f1) (g4 : f1[0]? = some (vR (some at3))) (h6 : h at3 = cI w5) (j7 : (8 : Int) < w5.length) (z8 : at3 ≠ 0) (k : Rn d bc bs mX13_init 156 [some (vR (some ar0)), l1] [] (up h at3 (cI (w5.set (8 : Int).toNat 227))) n Q) : Rn d (bc) (bs) mX13_init 146 [some (vR (some ar0)), l1] [] h n Q := by
  refine Rn_aload_n dX13_init_146 rfl rfl rfl ?_
  refine Rn_getfield (ci := 13) (k := 0) dX13_init_147 rfl in_13 (Nat.le_of_ble_eq_true rfl) wd_1352 rfl h2 g4 ?_
  refine Rn_bipush dX13_init_150 rfl ?_
  refine Rn_sipush dX13_init_152 rfl ?_
  refine Rn_iastore dX13_init_155 z8 h6 (by decide) j7 ?_
  exact k
theorem BX13_init_156 {d bc bs : Nat} {h : aH} {n : Nat} {Q : aQ} {ar0 at3 : Nat} {l1 : Option aV} {f1 : List aV} {w5 : List Int} (h2 : h ar0 = cO 13 f1) (g4 : f1[0]? = some (vR (some at3))) (h6 : h at3 = cI w5) (j7 : (2 : Int) < w5.length) (z8 : at3 ≠ 0) (k : Rn d bc bs mX13_init 163 [some (vR (some ar0)), l1] [] (up h at3 (cI (w5.set (2 : Int).toNat (-1)))) n Q) : Rn d (bc) (bs) mX13_init 156 [some (vR (some ar0)), l1] [] h n Q := by
  refine Rn_aload_n dX13_init_156 rfl rfl rfl ?_
  refine Rn_getfield (ci := 13) (k := 0) dX13_init_157 rfl in_13 (Nat.le_of_ble_eq_true rfl) wd_1352 rfl h2 g4 ?_
  refine Rn_iconst dX13_init_160 rfl ?_
  refine Rn_iconst dX13_init_161 rfl ?_
  refine Rn_iastore dX13_init_162 z8 h6 (by decide) j7 ?_
  exact k
theorem BX13_init_163 {d bc bs : Nat} {h : aH} {n : Nat} {Q : aQ} {r0 : Option Nat} {l1 : Option aV} (k : Rn d bc bs mX13_init 165 [some (vR r0), some (vI 0)] [] h n Q) : Rn d (bc) (bs) mX13_init 163 [some (vR r0), l1] [] h n Q := by
  refine Rn_iconst dX13_init_163 rfl ?_
  refine Rn_istore_n dX13_init_164 rfl (Nat.le_of_ble_eq_true rfl) rfl rfl ?_
  exact k
theorem BX13_init_165 {d bc bs : Nat} {h : aH} {n : Nat} {Q : aQ} {r0 : Option Nat} {x1 : Int} (kt : 10 ≤ x1 → Rn d bc bs mX13_init 217 [some (vR r0), some (vI x1)] [] h n Q) (kf : x1 < 10 → Rn d bc bs mX13_init 171 [some (vR r0), some (vI x1)] [] h n Q) : Rn d (bc) (bs) mX13_init 165 [some (vR r0), some (vI x1)] [] h n Q := by
  refine Rn_iload_n dX13_init_165 rfl rfl ?_
  refine Rn_bipush dX13_init_166 rfl ?_
  refine Rn_icmpge (tgt := 217) dX13_init_168 rfl ?_ ?_
  · exact kt
  · exact kf
theorem BX13_init_171 {d bc bs : Nat} {h : aH} {n : Nat} {Q : aQ} {ar0 at3 : Nat} {x1 : Int} {f1 : List aV} {w8 : List Int} (h2 : h ar0 = cO 13 f1) (g4 : f1[0]? = some (vR (some at3))) (b5 : -2147483648 ≤ 95 + x1 ∧ 95 + x1 < 2147483648) (b6 : -2147483648 ≤ x1 + 1 ∧ x1 + 1 < 2147483648) (b7 : 0 ≤ (x1 + 1)) (h9 : h at3 = cI w8) (i10 : 0 ≤ 95 + x1) (j11 : 95 + x1 < w8.length) (z12 : at3 ≠ 0) (k : Rn d bc bs mX13_init 186 [some (vR (some ar0)), some (vI x1)] [] (up h at3 (cI (w8.set (95 + x1 : Int).toNat ((x1 + 1) % 10)))) n Q) : Rn d (bc) (bs) mX13_init 171 [some (vR (some ar0)), some (vI x1)] [] h n Q := by
  refine Rn_aload_n dX13_init_171 rfl rfl rfl ?_
  refine Rn_getfield (ci := 13) (k := 0) dX13_init_172 rfl in_13 (Nat.le_of_ble_eq_true rfl) wd_1352 rfl h2 g4 ?_
  refine Rn_bipush dX13_init_175 rfl ?_
  refine Rn_iload_n dX13_init_177 rfl rfl ?_
  refine Rn_iadd dX13_init_178 ?_
  rw [w32_id b5.1 b5.2]
  refine Rn_iload_n dX13_init_179 rfl rfl ?_
  refine Rn_iconst dX13_init_180 rfl ?_
  refine Rn_iadd dX13_init_181 ?_
  rw [w32_id b6.1 b6.2]
  refine Rn_bipush dX13_init_182 rfl ?_
  refine Rn_irem dX13_init_184 (by decide) ?_
  rw [Int.tmod_eq_emod_of_nonneg b7]
  refine Rn_iastore dX13_init_185 z12 h9 i10 j11 ?_
  exact k
theorem BX13_init_186 {d bc bs : Nat} {h : aH} {n : Nat} {Q : aQ} {ar0 at3 : Nat} {x1 : Int} {f1 : List aV} {w8 : List Int} (h2 : h ar0 = cO 13 f1) (g4 : f1[0]? = some (vR (some at3))) (b5 : -2147483648 ≤ 105 + x1 ∧ 105 + x1 < 2147483648) (b6 : -2147483648 ≤ x1 + 3 ∧ x1 + 3 < 2147483648) (b7 : 0 ≤ (x1 + 3)) (h9 : h at3 = cI w8) (i10 : 0 ≤ 105 + x1) (j11 : 105 + x1 < w8.length) (z12 : at3 ≠ 0) (k : Rn d bc bs mX13_init 201 [some (vR (some ar0)), some (vI x1)] [] (up h at3 (cI (w8.set (105 + x1 : Int).toNat ((x1 + 3) % 10)))) n Q) : Rn d (bc) (bs) mX13_init 186 [some (vR (some ar0)), some (vI x1)] [] h n Q := by
  refine Rn_aload_n dX13_init_186 rfl rfl rfl ?_
  refine Rn_getfield (ci := 13) (k := 0) dX13_init_187 rfl in_13 (Nat.le_of_ble_eq_true rfl) wd_1352 rfl h2 g4 ?_
  refine Rn_bipush dX13_init_190 rfl ?_
  refine Rn_iload_n dX13_init_192 rfl rfl ?_
  refine Rn_iadd dX13_init_193 ?_
  rw [w32_id b5.1 b5.2]
  refine Rn_iload_n dX13_init_194 rfl rfl ?_
  refine Rn_iconst dX13_init_195 rfl ?_
  refine Rn_iadd dX13_init_196 ?_
  rw [w32_id b6.1 b6.2]
  refine Rn_bipush dX13_init_197 rfl ?_
  refine Rn_irem dX13_init_199 (by decide) ?_
  rw [Int.tmod_eq_emod_of_nonneg b7]
  refine Rn_iastore dX13_init_200 z12 h9 i10 j11 ?_
  exact k
theorem BX13_init_201 {d bc bs : Nat} {h : aH} {n : Nat} {Q : aQ} {ar0 at3 : Nat} {x1 : Int} {f1 : List aV} {w6 : List Int} (h2 : h ar0 = cO 13 f1) (g4 : f1[0]? = some (vR (some at3))) (b5 : -2147483648 ≤ 115 + x1 ∧ 115 + x1 < 2147483648) (h7 : h at3 = cI w6) (i8 : 0 ≤ 115 + x1) (j9 : 115 + x1 < w6.length) (z10 : at3 ≠ 0) (k : Rn d bc bs mX13_init 211 [some (vR (some ar0)), some (vI x1)] [] (up h at3 (cI (w6.set (115 + x1 : Int).toNat x1))) n Q) : Rn d (bc) (bs) mX13_init 201 [some (vR (some ar0)), some (vI x1)] [] h n Q := by
  refine Rn_aload_n dX13_init_201 rfl rfl rfl ?_
  refine Rn_getfield (ci := 13) (k := 0) dX13_init_202 rfl in_13 (Nat.le_of_ble_eq_true rfl) wd_1352 rfl h2 g4 ?_
  refine Rn_bipush dX13_init_205 rfl ?_
  refine Rn_iload_n dX13_init_207 rfl rfl ?_
  refine Rn_iadd dX13_init_208 ?_
  rw [w32_id b5.1 b5.2]
  refine Rn_iload_n dX13_init_209 rfl rfl ?_
  refine Rn_iastore dX13_init_210 z10 h7 i8 j9 ?_
  exact k
theorem BX13_init_211 {d bc bs : Nat} {h : aH} {n : Nat} {Q : aQ} {r0 : Option Nat} {x1 : Int} (b1 : -2147483648 ≤ x1 + 1 ∧ x1 + 1 < 2147483648) (k : Rn d bc bs mX13_init 165 [some (vR r0), some (vI (x1 + 1))] [] h n Q) : Rn d (bc) (bs) mX13_init 211 [some (vR r0), some (vI x1)] [] h n Q := by
  refine Rn_iinc dX13_init_211 rfl (Nat.le_of_ble_eq_true rfl) rfl rfl rfl ?_
  rw [w32_id b1.1 b1.2]
  refine Rn_goto (tgt := 165) dX13_init_214 rfl ?_
  exact k
theorem BX13_init_217 {d bc bs : Nat} {h : aH} {n : Nat} {Q : aQ} {ar0 at3 : Nat} {x1 : Int} {f1 : List aV} {w5 : List Int} (h2 : h ar0 = cO 13 f1) (g4 : f1[0]? = some (vR (some at3))) (h6 : h at3 = cI w5) (j7 : (145 : Int) < w5.length) (z8 : at3 ≠ 0) (k : Rn d bc bs mX13_init 226 [some (vR (some ar0)), some (vI x1)] [] (up h at3 (cI (w5.set (145 : Int).toNat 5))) n Q) : Rn d (bc) (bs) mX13_init 217 [some (vR (some ar0)), some (vI x1)] [] h n Q := by
  refine Rn_aload_n dX13_init_217 rfl rfl rfl ?_
  refine Rn_getfield (ci := 13) (k := 0) dX13_init_218 rfl in_13 (Nat.le_of_ble_eq_true rfl) wd_1352 rfl h2 g4 ?_
  refine Rn_sipush dX13_init_221 rfl ?_
  refine Rn_iconst dX13_init_224 rfl ?_
  refine Rn_iastore dX13_init_225 z8 h6 (by decide) j7 ?_
  exact k
theorem BX13_init_226 {d bc bs : Nat} {h : aH} {n : Nat} {Q : aQ} {ar0 at3 : Nat} {x1 : Int} {f1 : List aV} {w5 : List Int} (h2 : h ar0 = cO 13 f1) (g4 : f1[0]? = some (vR (some at3))) (h6 : h at3 = cI w5) (j7 : (146 : Int) < w5.length) (z8 : at3 ≠ 0) (k : Rn d bc bs mX13_init 235 [some (vR (some ar0)), some (vI x1)] [] (up h at3 (cI (w5.set (146 : Int).toNat 1))) n Q) : Rn d (bc) (bs) mX13_init 226 [some (vR (some ar0)), some (vI x1)] [] h n Q := by
  refine Rn_aload_n dX13_init_226 rfl rfl rfl ?_
  refine Rn_getfield (ci := 13) (k := 0) dX13_init_227 rfl in_13 (Nat.le_of_ble_eq_true rfl) wd_1352 rfl h2 g4 ?_
  refine Rn_sipush dX13_init_230 rfl ?_
  refine Rn_iconst dX13_init_233 rfl ?_
  refine Rn_iastore dX13_init_234 z8 h6 (by decide) j7 ?_
  exact k
theorem BX13_init_235 {d bc bs : Nat} {h : aH} {n : Nat} {Q : aQ} {ar0 : Nat} {x1 : Int} {f1 : List aV} {t3 t5 : Option Nat} (h2 : h ar0 = cO 13 f1) (g4 : f1[0]? = some (vR t3)) (g6 : f1[1]? = some (vR t5)) (k : Rn d 0 0 mX13_copy 0 [some (vR t3), some (vR t5), none] [] h n (fun v h1 n1 => Rn (d + 1) bc bs mX13_init 246 [some (vR (some ar0)), some (vI x1)] (v.toList ++ []) h1 n1 Q)) : Rn (d + 1) (bc) (bs) mX13_init 235 [some (vR (some ar0)), some (vI x1)] [] h n Q := by
  refine Rn_aload_n dX13_init_235 rfl rfl rfl ?_
  refine Rn_getfield (ci := 13) (k := 0) dX13_init_236 rfl in_13 (Nat.le_of_ble_eq_true rfl) wd_1352 rfl h2 g4 ?_
  refine Rn_aload_n dX13_init_239 rfl rfl rfl ?_
  refine Rn_getfield (ci := 13) (k := 1) dX13_init_240 rfl in_13 (Nat.le_of_ble_eq_true rfl) wd_1353 rfl h2 g6 ?_
  exact Rn_callS (avs := [vR t3, vR t5]) (st := []) (bc1 := 0) (bs1 := 0) (bc2 := bc) (bs2 := bs) fx_X13_copy dX13_init_243 (Or.inl wd_1349) wd_1350 rfl (Nat.le_of_ble_eq_true rfl) (Nat.le_of_ble_eq_true rfl) (by omega) (by omega) (ls1 := [some (vR t3), some (vR t5), none]) rfl k
theorem BX13_init_246 {d bc bs : Nat} {h : aH} {n : Nat} {Q : aQ} {r0 : Option Nat} {x1 : Int} (k : Q none h n) : Rn d (bc) (bs) mX13_init 246 [some (vR r0), some (vI x1)] [] h n Q := by
  exact Rn_return rfl dX13_init_246 k
theorem dX13_copy_0 : decode cX13_copy 0 = .ok (.iconst 0, 1) := by decide +kernel
theorem dX13_copy_1 : decode cX13_copy 1 = .ok (.istore_n 2, 1) := by decide +kernel
theorem dX13_copy_2 : decode cX13_copy 2 = .ok (.iload_n 2, 1) := by decide +kernel
theorem dX13_copy_3 : decode cX13_copy 3 = .ok (.sipush 3389, 3) := by decide +kernel
theorem dX13_copy_6 : decode cX13_copy 6 = .ok (.if_icmp .ge 15, 3) := by decide +kernel
theorem dX13_copy_9 : decode cX13_copy 9 = .ok (.aload_n 1, 1) := by decide +kernel
theorem dX13_copy_10 : decode cX13_copy 10 = .ok (.iload_n 2, 1) := by decide +kernel
theorem dX13_copy_11 : decode cX13_copy 11 = .ok (.aload_n 0, 1) := by decide +kernel
theorem dX13_copy_12 : decode cX13_copy 12 = .ok (.iload_n 2, 1) := by decide +kernel
theorem dX13_copy_13 : decode cX13_copy 13 = .ok (.iaload, 1) := by decide +kernel
theorem dX13_copy_14 : decode cX13_copy 14 = .ok (.iastore, 1) := by decide +kernel
theorem dX13_copy_15 : decode cX13_copy 15 = .ok (.iinc 2 1, 3) := by decide +kernel
theorem dX13_copy_18 : decode cX13_copy 18 = .ok (.goto (-16), 3) := by decide +kernel
theorem dX13_copy_21 : decode cX13_copy 21 = .ok (.return_, 1) := by decide +kernel
theorem BX13_copy_0 {d bc bs : Nat} {h : aH} {n : Nat} {Q : aQ} {r0 r1 : Option Nat} {l2 : Option aV} (k : Rn d bc bs mX13_copy 2 [some (vR r0), some (vR r1), some (vI 0)] [] h n Q) : Rn d (bc) (bs) mX13_copy 0 [some (vR r0), some (vR r1), l2] [] h n Q := by
  refine Rn_iconst dX13_copy_0 rfl ?_
  refine Rn_istore_n dX13_copy_1 rfl (Nat.le_of_ble_eq_true rfl) rfl rfl ?_
  exact k
theorem BX13_copy_2 {d bc bs : Nat} {h : aH} {n : Nat} {Q : aQ} {r0 r1 : Option Nat} {x2 : Int} (kt : 3389 ≤ x2 → Rn d bc bs mX13_copy 21 [some (vR r0), some (vR r1), some (vI x2)] [] h n Q) (kf : x2 < 3389 → Rn d bc bs mX13_copy 9 [some (vR r0), some (vR r1), some (vI x2)] [] h n Q) : Rn d (bc) (bs) mX13_copy 2 [some (vR r0), some (vR r1), some (vI x2)] [] h n Q := by
  refine Rn_iload_n dX13_copy_2 rfl rfl ?_
  refine Rn_sipush dX13_copy_3 rfl ?_
  refine Rn_icmpge (tgt := 21) dX13_copy_6 rfl ?_ ?_
  · exact kt
  · exact kf
theorem BX13_copy_9 {d bc bs : Nat} {h : aH} {n : Nat} {Q : aQ} {ar0 ar1 : Nat} {x2 v3 : Int} {w1 w6 : List Int} (h2 : h ar0 = cI w1) (i4 : 0 ≤ x2) (g5 : w1[(x2 : Int).toNat]? = some v3) (h7 : h ar1 = cI w6) (j8 : x2 < w6.length) (z9 : ar1 ≠ 0) (k : Rn d bc bs mX13_copy 15 [some (vR (some ar0)), some (vR (some ar1)), some (vI x2)] [] (up h ar1 (cI (w6.set (x2 : Int).toNat v3))) n Q) : Rn d (bc) (bs) mX13_copy 9 [some (vR (some ar0)), some (vR (some ar1)), some (vI x2)] [] h n Q := by
  refine Rn_aload_n dX13_copy_9 rfl rfl rfl ?_
  refine Rn_iload_n dX13_copy_10 rfl rfl ?_
  refine Rn_aload_n dX13_copy_11 rfl rfl rfl ?_
  refine Rn_iload_n dX13_copy_12 rfl rfl ?_
  refine Rn_iaload dX13_copy_13 h2 i4 g5 ?_
  refine Rn_iastore dX13_copy_14 z9 h7 i4 j8 ?_
  exact k
theorem BX13_copy_15 {d bc bs : Nat} {h : aH} {n : Nat} {Q : aQ} {r0 r1 : Option Nat} {x2 : Int} (b1 : -2147483648 ≤ x2 + 1 ∧ x2 + 1 < 2147483648) (k : Rn d bc bs mX13_copy 2 [some (vR r0), some (vR r1), some (vI (x2 + 1))] [] h n Q) : Rn d (bc) (bs) mX13_copy 15 [some (vR r0), some (vR r1), some (vI x2)] [] h n Q := by
  refine Rn_iinc dX13_copy_15 rfl (Nat.le_of_ble_eq_true rfl) rfl rfl rfl ?_
  rw [w32_id b1.1 b1.2]
  refine Rn_goto (tgt := 2) dX13_copy_18 rfl ?_
  exact k
theorem BX13_copy_21 {d bc bs : Nat} {h : aH} {n : Nat} {Q : aQ} {r0 r1 : Option Nat} {x2 : Int} (k : Q none h n) : Rn d (bc) (bs) mX13_copy 21 [some (vR r0), some (vR r1), some (vI x2)] [] h n Q := by
  exact Rn_return rfl dX13_copy_21 k
theorem dX13_isIn_0 : decode cX13_isIn 0 = .ok (.iload_n 0, 1) := by decide +kernel
theorem dX13_isIn_1 : decode cX13_isIn 1 = .ok (.iload_n 1, 1) := by decide +kernel
theorem dX13_isIn_2 : decode cX13_isIn 2 = .ok (.if_icmp .lt 12, 3) := by decide +kernel
theorem dX13_isIn_5 : decode cX13_isIn 5 = .ok (.iload_n 0, 1) := by decide +kernel
theorem dX13_isIn_6 : decode cX13_isIn 6 = .ok (.iload_n 2, 1) := by decide +kernel
theorem dX13_isIn_7 : decode cX13_isIn 7 = .ok (.if_icmp .gt 7, 3) := by decide +kernel
theorem dX13_isIn_10 : decode cX13_isIn 10 = .ok (.iconst 1, 1) := by decide +kernel
theorem dX13_isIn_11 : decode cX13_isIn 11 = .ok (.goto 4, 3) := by decide +kernel
theorem dX13_isIn_14 : decode cX13_isIn 14 = .ok (.iconst 0, 1) := by decide +kernel
theorem dX13_isIn_15 : decode cX13_isIn 15 = .ok (.ireturn, 1) := by decide +kernel
theorem BX13_isIn_0 {d bc bs : Nat} {h : aH} {n : Nat} {Q : aQ} {x0 x1 x2 : Int} (kt : x0 < x1 → Rn d bc bs mX13_isIn 14 [some (vI x0), some (vI x1), some (vI x2)] [] h n Q) (kf : x1 ≤ x0 → Rn d bc bs mX13_isIn 5 [some (vI x0), some (vI x1), some (vI x2)] [] h n Q) : Rn d (bc) (bs) mX13_isIn 0 [some (vI x0), some (vI x1), some (vI x2)] [] h n Q := by
  refine Rn_iload_n dX13_isIn_0 rfl rfl ?_
  refine Rn_iload_n dX13_isIn_1 rfl rfl ?_
  refine Rn_icmplt (tgt := 14) dX13_isIn_2 rfl ?_ ?_
  · exact kt
  · exact kf
theorem BX13_isIn_5 {d bc bs : Nat} {h : aH} {n : Nat} {Q : aQ} {x0 x1 x2 : Int} (kt : x2 < x0 → Rn d bc bs mX13_isIn 14 [some (vI x0), some (vI x1), some (vI x2)] [] h n Q) (kf : x0 ≤ x2 → Rn d bc bs mX13_isIn 10 [some (vI x0), some (vI x1), some (vI x2)] [] h n Q) : Rn d (bc) (bs) mX13_isIn 5 [some (vI x0), some (vI x1), some (vI x2)] [] h n Q := by
  refine Rn_iload_n dX13_isIn_5 rfl rfl ?_
  refine Rn_iload_n dX13_isIn_6 rfl rfl ?_
  refine Rn_icmpgt (tgt := 14) dX13_isIn_7 rfl ?_ ?_
  · exact kt
  · exact kf
theorem BX13_isIn_10 {d bc bs : Nat} {h : aH} {n : Nat} {Q : aQ} {x0 x1 x2 : Int} (k : Q (some (vI 1)) h n) : Rn d (bc) (bs) mX13_isIn 10 [some (vI x0), some (vI x1), some (vI x2)] [] h n Q := by
  refine Rn_iconst dX13_isIn_10 rfl ?_
  refine Rn_goto (tgt := 15) dX13_isIn_11 rfl ?_
  exact Rn_zreturn rfl dX13_isIn_15 (by decide) k
theorem BX13_isIn_14 {d bc bs : Nat} {h : aH} {n : Nat} {Q : aQ} {x0 x1 x2 : Int} (k : Q (some (vI 0)) h n) : Rn d (bc) (bs) mX13_isIn 14 [some (vI x0), some (vI x1), some (vI x2)] [] h n Q := by
  refine Rn_iconst dX13_isIn_14 rfl ?_
  exact Rn_zreturn rfl dX13_isIn_15 (by decide) k
theorem dX13_cut_0 : decode cX13_cut 0 = .ok (.lload_n 0, 1) := by decide +kernel
theorem dX13_cut_1 : decode cX13_cut 1 = .ok (.iload_n 2, 1) := by decide +kernel
theorem dX13_cut_2 : decode cX13_cut 2 = .ok (.i2l, 1) := by decide +kernel
theorem dX13_cut_3 : decode cX13_cut 3 = .ok (.lcmp, 1) := by decide +kernel
theorem dX13_cut_4 : decode cX13_cut 4 = .ok (.ifCond .ge 7, 3) := by decide +kernel
theorem dX13_cut_7 : decode cX13_cut 7 = .ok (.iload_n 2, 1) := by decide +kernel
theorem dX13_cut_8 : decode cX13_cut 8 = .ok (.goto 16, 3) := by decide +kernel
theorem dX13_cut_11 : decode cX13_cut 11 = .ok (.lload_n 0, 1) := by decide +kernel
theorem dX13_cut_12 : decode cX13_cut 12 = .ok (.iload_n 3, 1) := by decide +kernel
theorem dX13_cut_13 : decode cX13_cut 13 = .ok (.i2l, 1) := by decide +kernel
theorem dX13_cut_14 : decode cX13_cut 14 = .ok (.lcmp, 1) := by decide +kernel
theorem dX13_cut_15 : decode cX13_cut 15 = .ok (.ifCond .le 7, 3) := by decide +kernel
theorem dX13_cut_18 : decode cX13_cut 18 = .ok (.iload_n 3, 1) := by decide +kernel
theorem dX13_cut_19 : decode cX13_cut 19 = .ok (.goto 5, 3) := by decide +kernel
theorem dX13_cut_22 : decode cX13_cut 22 = .ok (.lload_n 0, 1) := by decide +kernel
theorem dX13_cut_23 : decode cX13_cut 23 = .ok (.l2i, 1) := by decide +kernel
theorem dX13_cut_24 : decode cX13_cut 24 = .ok (.ireturn, 1) := by decide +kernel
theorem BX13_cut_0 {d bc bs : Nat} {h : aH} {n : Nat} {Q : aQ} {x0 x2 x3 : Int} (kt : x2 ≤ x0 → Rn d bc bs mX13_cut 11 [some (vL x0), none, some (vI x2), some (vI x3)] [] h n Q) (kf : x0 < x2 → Rn d bc bs mX13_cut 7 [some (vL x0), none, some (vI x2), some (vI x3)] [] h n Q) : Rn d (bc) (bs) mX13_cut 0 [some (vL x0), none, some (vI x2), some (vI x3)] [] h n Q := by
  refine Rn_lload_n dX13_cut_0 rfl rfl ?_
  refine Rn_iload_n dX13_cut_1 rfl rfl ?_
  refine Rn_i2l dX13_cut_2 ?_
  refine Rn_lcmp dX13_cut_3 ?_
  refine Rn_ifge (tgt := 11) dX13_cut_4 rfl ?_ ?_
  · exact fun q => kt (lc_ge q)
  · exact fun q => kf (lc_lt q)
theorem BX13_cut_7 {d bc bs : Nat} {h : aH} {n : Nat} {Q : aQ} {x0 x2 x3 : Int} (k : Q (some (vI x2)) h n) : Rn d (bc) (bs) mX13_cut 7 [some (vL x0), none, some (vI x2), some (vI x3)] [] h n Q := by
  refine Rn_iload_n dX13_cut_7 rfl rfl ?_
  refine Rn_goto (tgt := 24) dX13_cut_8 rfl ?_
  exact Rn_ireturn rfl dX13_cut_24 k
theorem BX13_cut_11 {d bc bs : Nat} {h : aH} {n : Nat} {Q : aQ} {x0 x2 x3 : Int} (kt : x0 ≤ x3 → Rn d bc bs mX13_cut 22 [some (vL x0), none, some (vI x2), some (vI x3)] [] h n Q) (kf : x3 < x0 → Rn d bc bs mX13_cut 18 [some (vL x0), none, some (vI x2), some (vI x3)] [] h n Q) : Rn d (bc) (bs) mX13_cut 11 [some (vL x0), none, some (vI x2), some (vI x3)] [] h n Q := by
  refine Rn_lload_n dX13_cut_11 rfl rfl ?_
  refine Rn_iload_n dX13_cut_12 rfl rfl ?_
  refine Rn_i2l dX13_cut_13 ?_
  refine Rn_lcmp dX13_cut_14 ?_
  refine Rn_ifle (tgt := 22) dX13_cut_15 rfl ?_ ?_
  · exact fun q => kt (lc_le q)
  · exact fun q => kf (lc_gt q)
theorem BX13_cut_18 {d bc bs : Nat} {h : aH} {n : Nat} {Q : aQ} {x0 x2 x3 : Int} (k : Q (some (vI x3)) h n) : Rn d (bc) (bs) mX13_cut 18 [some (vL x0), none, some (vI x2), some (vI x3)] [] h n Q := by
  refine Rn_iload_n dX13_cut_18 rfl rfl ?_
  refine Rn_goto (tgt := 24) dX13_cut_19 rfl ?_
  exact Rn_ireturn rfl dX13_cut_24 k
theorem BX13_cut_22 {d bc bs : Nat} {h : aH} {n : Nat} {Q : aQ} {x0 x2 x3 : Int} (b1 : -2147483648 ≤ x0 ∧ x0 < 2147483648) (k : Q (some (vI x0)) h n) : Rn d (bc) (bs) mX13_cut 22 [some (vL x0), none, some (vI x2), some (vI x3)] [] h n Q := by
  refine Rn_lload_n dX13_cut_22 rfl rfl ?_
  refine Rn_l2i dX13_cut_23 ?_
  rw [w32_id b1.1 b1.2]
  exact Rn_ireturn rfl dX13_cut_24 k
theorem dX13_has_0 : decode cX13_has 0 = .ok (.iload_n 0, 1) := by decide +kernel
theorem dX13_has_1 : decode cX13_has 1 = .ok (.iload_n 1, 1) := by decide +kernel
theorem dX13_has_2 : decode cX13_has 2 = .ok (.ishr, 1) := by decide +kernel
theorem dX13_has_3 : decode cX13_has 3 = .ok (.iconst 1, 1) := by decide +kernel
theorem dX13_has_4 : decode cX13_has 4 = .ok (.iand, 1) := by decide +kernel
theorem dX13_has_5 : decode cX13_has 5 = .ok (.iconst 1, 1) := by decide +kernel
theorem dX13_has_6 : decode cX13_has 6 = .ok (.if_icmp .ne 7, 3) := by decide +kernel
theorem dX13_has_9 : decode cX13_has 9 = .ok (.iconst 1, 1) := by decide +kernel
theorem dX13_has_10 : decode cX13_has 10 = .ok (.goto 4, 3) := by decide +kernel
theorem dX13_has_13 : decode cX13_has 13 = .ok (.iconst 0, 1) := by decide +kernel
theorem dX13_has_14 : decode cX13_has 14 = .ok (.ireturn, 1) := by decide +kernel
theorem BX13_has_0 {d bc bs : Nat} {h : aH} {n : Nat} {Q : aQ} {x0 x1 : Int} (kt : (and32 (shr32 x0 x1) 1) ≠ 1 → Rn d bc bs mX13_has 13 [some (vI x0), some (vI x1)] [] h n Q) (kf : (and32 (shr32 x0 x1) 1) = 1 → Rn d bc bs mX13_has 9 [some (vI x0), some (vI x1)] [] h n Q) : Rn d (bc) (bs) mX13_has 0 [some (vI x0), some (vI x1)] [] h n Q := by
  refine Rn_iload_n dX13_has_0 rfl rfl ?_
  refine Rn_iload_n dX13_has_1 rfl rfl ?_
  refine Rn_ishr dX13_has_2 ?_
  refine Rn_iconst dX13_has_3 rfl ?_
  refine Rn_iand dX13_has_4 ?_
  refine Rn_iconst dX13_has_5 rfl ?_
  refine Rn_icmpne (tgt := 13) dX13_has_6 rfl ?_ ?_
  · exact kt
  · exact kf
theorem BX13_has_9 {d bc bs : Nat} {h : aH} {n : Nat} {Q : aQ} {x0 x1 : Int} (k : Q (some (vI 1)) h n) : Rn d (bc) (bs) mX13_has 9 [some (vI x0), some (vI x1)] [] h n Q := by
  refine Rn_iconst dX13_has_9 rfl ?_
  refine Rn_goto (tgt := 14) dX13_has_10 rfl ?_
  exact Rn_zreturn rfl dX13_has_14 (by decide) k
theorem BX13_has_13 {d bc bs : Nat} {h : aH} {n : Nat} {Q : aQ} {x0 x1 : Int} (k : Q (some (vI 0)) h n) : Rn d (bc) (bs) mX13_has 13 [some (vI x0), some (vI x1)] [] h n Q := by
  refine Rn_iconst dX13_has_13 rfl ?_
  exact Rn_zreturn rfl dX13_has_14 (by decide) k
theorem dX13_isPerson_0 : decode cX13_isPerson 0 = .ok (.iload_n 1, 1) := by decide +kernel
theorem dX13_isPerson_1 : decode cX13_isPerson 1 = .ok (.iconst 0, 1) := by decide +kernel
theorem dX13_isPerson_2 : decode cX13_isPerson 2 = .ok (.aload_n 0, 1) := by decide +kernel
theorem dX13_isPerson_3 : decode cX13_isPerson 3 = .ok (.getfield 7, 3) := by decide +kernel
theorem dX13_isPerson_6 : decode cX13_isPerson 6 = .ok (.iconst 0, 1) := by decide +kernel
theorem dX13_isPerson_7 : decode cX13_isPerson 7 = .ok (.iaload, 1) := by decide +kernel
theorem dX13_isPerson_8 : decode cX13_isPerson 8 = .ok (.iconst 1, 1) := by decide +kernel
theorem dX13_isPerson_9 : decode cX13_isPerson 9 = .ok (.isub, 1) := by decide +kernel
theorem dX13_isPerson_10 : decode cX13_isPerson 10 = .ok (.invokestatic 72, 3) := by decide +kernel
theorem dX13_isPerson_13 : decode cX13_isPerson 13 = .ok (.ireturn, 1) := by decide +kernel
theorem BX13_isPerson_0 {d bc bs : Nat} {h : aH} {n : Nat} {Q : aQ} {ar0 at3 : Nat} {x1 v7 : Int} {f1 : List aV} {w5 : List Int} (h2 : h ar0 = cO 13 f1) (g4 : f1[0]? = some (vR (some at3))) (h6 : h at3 = cI w5) (g8 : w5[(0 : Int).toNat]? = some v7) (b9 : -2147483648 ≤ v7 - 1 ∧ v7 - 1 < 2147483648) (k : Rn d 0 0 mX13_isIn 0 [some (vI x1), some (vI 0), some (vI (v7 - 1))] [] h n (fun v h1 n1 => Rn (d + 1) bc bs mX13_isPerson 13 [some (vR (some ar0)), some (vI x1)] (v.toList ++ []) h1 n1 Q)) : Rn (d + 1) (bc) (bs) mX13_isPerson 0 [some (vR (some ar0)), some (vI x1)] [] h n Q := by
  refine Rn_iload_n dX13_isPerson_0 rfl rfl ?_
  refine Rn_iconst dX13_isPerson_1 rfl ?_
  refine Rn_aload_n dX13_isPerson_2 rfl rfl rfl ?_
  refine Rn_getfield (ci := 13) (k := 0) dX13_isPerson_3 rfl in_13 (Nat.le_of_ble_eq_true rfl) wd_1352 rfl h2 g4 ?_
  refine Rn_iconst dX13_isPerson_6 rfl ?_
  refine Rn_iaload dX13_isPerson_7 h6 (by decide) g8 ?_
  refine Rn_iconst dX13_isPerson_8 rfl ?_
  refine Rn_isub dX13_isPerson_9 ?_
  rw [w32_id b9.1 b9.2]
  exact Rn_callS (avs := [vI x1, vI 0, vI (v7 - 1)]) (st := []) (bc1 := 0) (bs1 := 0) (bc2 := bc) (bs2 := bs) fx_X13_isIn dX13_isPerson_10 (Or.inl wd_1463) wd_1464 rfl (Nat.le_of_ble_eq_true rfl) (Nat.le_of_ble_eq_true rfl) (by omega) (by omega) (ls1 := [some (vI x1), some (vI 0), some (vI (v7 - 1))]) rfl k
theorem BX13_isPerson_13 {d bc bs : Nat} {h : aH} {n : Nat} {Q : aQ} {r0 : Option Nat} {x1 s0 : Int} (b1 : s0 = 0 ∨ s0 = 1) (k : Q (some (vI s0)) h n) : Rn d (bc) (bs) mX13_isPerson 13 [some (vR r0), some (vI x1)] [vI s0] h n Q := by
  exact Rn_zreturn rfl dX13_isPerson_13 b1 k
theorem dX13_isBottle_0 : decode cX13_isBottle 0 = .ok (.iload_n 1, 1) := by decide +kernel
theorem dX13_isBottle_1 : decode cX13_isBottle 1 = .ok (.iconst 0, 1) := by decide +kernel
theorem dX13_isBottle_2 : decode cX13_isBottle 2 = .ok (.aload_n 0, 1) := by decide +kernel
theorem dX13_isBottle_3 : decode cX13_isBottle 3 = .ok (.getfield 7, 3) := by decide +kernel
theorem dX13_isBottle_6 : decode cX13_isBottle 6 = .ok (.bipush 9, 2) := by decide +kernel
theorem dX13_isBottle_8 : decode cX13_isBottle 8 = .ok (.iaload, 1) := by decide +kernel
theorem dX13_isBottle_9 : decode cX13_isBottle 9 = .ok (.iconst 1, 1) := by decide +kernel
theorem dX13_isBottle_10 : decode cX13_isBottle 10 = .ok (.isub, 1) := by decide +kernel
theorem dX13_isBottle_11 : decode cX13_isBottle 11 = .ok (.invokestatic 72, 3) := by decide +kernel
theorem dX13_isBottle_14 : decode cX13_isBottle 14 = .ok (.ireturn, 1) := by decide +kernel
theorem BX13_isBottle_0 {d bc bs : Nat} {h : aH} {n : Nat} {Q : aQ} {ar0 at3 : Nat} {x1 v7 : Int} {f1 : List aV} {w5 : List Int} (h2 : h ar0 = cO 13 f1) (g4 : f1[0]? = some (vR (some at3))) (h6 : h at3 = cI w5) (g8 : w5[(9 : Int).toNat]? = some v7) (b9 : -2147483648 ≤ v7 - 1 ∧ v7 - 1 < 2147483648) (k : Rn d 0 0 mX13_isIn 0 [some (vI x1), some (vI 0), some (vI (v7 - 1))] [] h n (fun v h1 n1 => Rn (d + 1) bc bs mX13_isBottle 14 [some (vR (some ar0)), some (vI x1)] (v.toList ++ []) h1 n1 Q)) : Rn (d + 1) (bc) (bs) mX13_isBottle 0 [some (vR (some ar0)), some (vI x1)] [] h n Q := by
  refine Rn_iload_n dX13_isBottle_0 rfl rfl ?_
  refine Rn_iconst dX13_isBottle_1 rfl ?_
  refine Rn_aload_n dX13_isBottle_2 rfl rfl rfl ?_
  refine Rn_getfield (ci := 13) (k := 0) dX13_isBottle_3 rfl in_13 (Nat.le_of_ble_eq_true rfl) wd_1352 rfl h2 g4 ?_
  refine Rn_bipush dX13_isBottle_6 rfl ?_
  refine Rn_iaload dX13_isBottle_8 h6 (by decide) g8 ?_
  refine Rn_iconst dX13_isBottle_9 rfl ?_
  refine Rn_isub dX13_isBottle_10 ?_
  rw [w32_id b9.1 b9.2]
  exact Rn_callS (avs := [vI x1, vI 0, vI (v7 - 1)]) (st := []) (bc1 := 0) (bs1 := 0) (bc2 := bc) (bs2 := bs) fx_X13_isIn dX13_isBottle_11 (Or.inl wd_1463) wd_1464 rfl (Nat.le_of_ble_eq_true rfl) (Nat.le_of_ble_eq_true rfl) (by omega) (by omega) (ls1 := [some (vI x1), some (vI 0), some (vI (v7 - 1))]) rfl k
theorem BX13_isBottle_14 {d bc bs : Nat} {h : aH} {n : Nat} {Q : aQ} {r0 : Option Nat} {x1 s0 : Int} (b1 : s0 = 0 ∨ s0 = 1) (k : Q (some (vI s0)) h n) : Rn d (bc) (bs) mX13_isBottle 14 [some (vR r0), some (vI x1)] [vI s0] h n Q := by
  exact Rn_zreturn rfl dX13_isBottle_14 b1 k
theorem dX13_isPlace_0 : decode cX13_isPlace 0 = .ok (.iload_n 0, 1) := by decide +kernel
theorem dX13_isPlace_1 : decode cX13_isPlace 1 = .ok (.iconst 0, 1) := by decide +kernel
theorem dX13_isPlace_2 : decode cX13_isPlace 2 = .ok (.bipush 9, 2) := by decide +kernel
theorem dX13_isPlace_4 : decode cX13_isPlace 4 = .ok (.invokestatic 72, 3) := by decide +kernel
theorem dX13_isPlace_7 : decode cX13_isPlace 7 = .ok (.ireturn, 1) := by decide +kernel
theorem BX13_isPlace_0 {d bc bs : Nat} {h : aH} {n : Nat} {Q : aQ} {x0 : Int} (k : Rn d 0 0 mX13_isIn 0 [some (vI x0), some (vI 0), some (vI 9)] [] h n (fun v h1 n1 => Rn (d + 1) bc bs mX13_isPlace 7 [some (vI x0)] (v.toList ++ []) h1 n1 Q)) : Rn (d + 1) (bc) (bs) mX13_isPlace 0 [some (vI x0)] [] h n Q := by
  refine Rn_iload_n dX13_isPlace_0 rfl rfl ?_
  refine Rn_iconst dX13_isPlace_1 rfl ?_
  refine Rn_bipush dX13_isPlace_2 rfl ?_
  exact Rn_callS (avs := [vI x0, vI 0, vI 9]) (st := []) (bc1 := 0) (bs1 := 0) (bc2 := bc) (bs2 := bs) fx_X13_isIn dX13_isPlace_4 (Or.inl wd_1463) wd_1464 rfl (Nat.le_of_ble_eq_true rfl) (Nat.le_of_ble_eq_true rfl) (by omega) (by omega) (ls1 := [some (vI x0), some (vI 0), some (vI 9)]) rfl k
theorem BX13_isPlace_7 {d bc bs : Nat} {h : aH} {n : Nat} {Q : aQ} {x0 s0 : Int} (b1 : s0 = 0 ∨ s0 = 1) (k : Q (some (vI s0)) h n) : Rn d (bc) (bs) mX13_isPlace 7 [some (vI x0)] [vI s0] h n Q := by
  exact Rn_zreturn rfl dX13_isPlace_7 b1 k
theorem dX13_get_0 : decode cX13_get 0 = .ok (.aload_n 0, 1) := by decide +kernel
theorem dX13_get_1 : decode cX13_get 1 = .ok (.getfield 7, 3) := by decide +kernel
theorem dX13_get_4 : decode cX13_get 4 = .ok (.bipush 11, 2) := by decide +kernel
theorem dX13_get_6 : decode cX13_get 6 = .ok (.bipush 6, 2) := by decide +kernel
theorem dX13_get_8 : decode cX13_get 8 = .ok (.iload_n 1, 1) := by decide +kernel
theorem dX13_get_9 : decode cX13_get 9 = .ok (.imul, 1) := by decide +kernel
theorem dX13_get_10 : decode cX13_get 10 = .ok (.iadd, 1) := by decide +kernel
theorem dX13_get_11 : decode cX13_get 11 = .ok (.iload_n 2, 1) := by decide +kernel
theorem dX13_get_12 : decode cX13_get 12 = .ok (.iadd, 1) := by decide +kernel
theorem dX13_get_13 : decode cX13_get 13 = .ok (.iaload, 1) := by decide +kernel
theorem dX13_get_14 : decode cX13_get 14 = .ok (.ireturn, 1) := by decide +kernel
theorem BX13_get_0 {d bc bs : Nat} {h : aH} {n : Nat} {Q : aQ} {ar0 at3 : Nat} {x1 x2 v10 : Int} {f1 : List aV} {w8 : List Int} (h2 : h ar0 = cO 13 f1) (g4 : f1[0]? = some (vR (some at3))) (b5 : -2147483648 ≤ 6 * x1 ∧ 6 * x1 < 2147483648) (b6 : -2147483648 ≤ 11 + (6 * x1) ∧ 11 + (6 * x1) < 2147483648) (b7 : -2147483648 ≤ (11 + (6 * x1)) + x2 ∧ (11 + (6 * x1)) + x2 < 2147483648) (h9 : h at3 = cI w8) (i11 : 0 ≤ (11 + (6 * x1)) + x2) (g12 : w8[((11 + (6 * x1)) + x2 : Int).toNat]? = some v10) (k : Q (some (vI v10)) h n) : Rn d (bc) (bs) mX13_get 0 [some (vR (some ar0)), some (vI x1), some (vI x2)] [] h n Q := by
  refine Rn_aload_n dX13_get_0 rfl rfl rfl ?_
  refine Rn_getfield (ci := 13) (k := 0) dX13_get_1 rfl in_13 (Nat.le_of_ble_eq_true rfl) wd_1352 rfl h2 g4 ?_
  refine Rn_bipush dX13_get_4 rfl ?_
  refine Rn_bipush dX13_get_6 rfl ?_
  refine Rn_iload_n dX13_get_8 rfl rfl ?_
  refine Rn_imul dX13_get_9 ?_
  rw [w32_id b5.1 b5.2]
  refine Rn_iadd dX13_get_10 ?_
  rw [w32_id b6.1 b6.2]
  refine Rn_iload_n dX13_get_11 rfl rfl ?_
  refine Rn_iadd dX13_get_12 ?_
  rw [w32_id b7.1 b7.2]
  refine Rn_iaload dX13_get_13 h9 i11 g12 ?_
  exact Rn_ireturn rfl dX13_get_14 k
theorem dX13_put_0 : decode cX13_put 0 = .ok (.aload_n 0, 1) := by decide +kernel
theorem dX13_put_1 : decode cX13_put 1 = .ok (.getfield 7, 3) := by decide +kernel
theorem dX13_put_4 : decode cX13_put 4 = .ok (.bipush 11, 2) := by decide +kernel
theorem dX13_put_6 : decode cX13_put 6 = .ok (.bipush 6, 2) := by decide +kernel
theorem dX13_put_8 : decode cX13_put 8 = .ok (.iload_n 1, 1) := by decide +kernel
theorem dX13_put_9 : decode cX13_put 9 = .ok (.imul, 1) := by decide +kernel
theorem dX13_put_10 : decode cX13_put 10 = .ok (.iadd, 1) := by decide +kernel
theorem dX13_put_11 : decode cX13_put 11 = .ok (.iload_n 2, 1) := by decide +kernel
theorem dX13_put_12 : decode cX13_put 12 = .ok (.iadd, 1) := by decide +kernel
theorem dX13_put_13 : decode cX13_put 13 = .ok (.iload_n 3, 1) := by decide +kernel
theorem dX13_put_14 : decode cX13_put 14 = .ok (.iastore, 1) := by decide +kernel
theorem dX13_put_15 : decode cX13_put 15 = .ok (.return_, 1) := by decide +kernel
theorem BX13_put_0 {d bc bs : Nat} {h : aH} {n : Nat} {Q : aQ} {ar0 at3 : Nat} {x1 x2 x3 : Int} {f1 : List aV} {w8 : List Int} (h2 : h ar0 = cO 13 f1) (g4 : f1[0]? = some (vR (some at3))) (b5 : -2147483648 ≤ 6 * x1 ∧ 6 * x1 < 2147483648) (b6 : -2147483648 ≤ 11 + (6 * x1) ∧ 11 + (6 * x1) < 2147483648) (b7 : -2147483648 ≤ (11 + (6 * x1)) + x2 ∧ (11 + (6 * x1)) + x2 < 2147483648) (h9 : h at3 = cI w8) (i10 : 0 ≤ (11 + (6 * x1)) + x2) (j11 : (11 + (6 * x1)) + x2 < w8.length) (z12 : at3 ≠ 0) (k : Rn d bc bs mX13_put 15 [some (vR (some ar0)), some (vI x1), some (vI x2), some (vI x3)] [] (up h at3 (cI (w8.set ((11 + (6 * x1)) + x2 : Int).toNat x3))) n Q) : Rn d (bc) (bs) mX13_put 0 [some (vR (some ar0)), some (vI x1), some (vI x2), some (vI x3)] [] h n Q := by
  refine Rn_aload_n dX13_put_0 rfl rfl rfl ?_
  refine Rn_getfield (ci := 13) (k := 0) dX13_put_1 rfl in_13 (Nat.le_of_ble_eq_true rfl) wd_1352 rfl h2 g4 ?_
  refine Rn_bipush dX13_put_4 rfl ?_
  refine Rn_bipush dX13_put_6 rfl ?_
  refine Rn_iload_n dX13_put_8 rfl rfl ?_
  refine Rn_imul dX13_put_9 ?_
  rw [w32_id b5.1 b5.2]
  refine Rn_iadd dX13_put_10 ?_
  rw [w32_id b6.1 b6.2]
  refine Rn_iload_n dX13_put_11 rfl rfl ?_
  refine Rn_iadd dX13_put_12 ?_
  rw [w32_id b7.1 b7.2]
  refine Rn_iload_n dX13_put_13 rfl rfl ?_
  refine Rn_iastore dX13_put_14 z12 h9 i10 j11 ?_
  exact k
theorem BX13_put_15 {d bc bs : Nat} {h : aH} {n : Nat} {Q : aQ} {r0 : Option Nat} {x1 x2 x3 : Int} (k : Q none h n) : Rn d (bc) (bs) mX13_put 15 [some (vR r0), some (vI x1), some (vI x2), some (vI x3)] [] h n Q := by
  exact Rn_return rfl dX13_put_15 k
theorem dX13_own_0 : decode cX13_own 0 = .ok (.aload_n 0, 1) := by decide +kernel
theorem dX13_own_1 : decode cX13_own 1 = .ok (.getfield 7, 3) := by decide +kernel
theorem dX13_own_4 : decode cX13_own 4 = .ok (.bipush 83, 2) := by decide +kernel
theorem dX13_own_6 : decode cX13_own 6 = .ok (.iconst 2, 1) := by decide +kernel
theorem dX13_own_7 : decode cX13_own 7 = .ok (.iload_n 1, 1) := by decide +kernel
theorem dX13_own_8 : decode cX13_own 8 = .ok (.imul, 1) := by decide +kernel
theorem dX13_own_9 : decode cX13_own 9 = .ok (.iadd, 1) := by decide +kernel
theorem dX13_own_10 : decode cX13_own 10 = .ok (.iload_n 2, 1) := by decide +kernel
theorem dX13_own_11 : decode cX13_own 11 = .ok (.iadd, 1) := by decide +kernel
theorem dX13_own_12 : decode cX13_own 12 = .ok (.iaload, 1) := by decide +kernel
theorem dX13_own_13 : decode cX13_own 13 = .ok (.ireturn, 1) := by decide +kernel
theorem BX13_own_0 {d bc bs : Nat} {h : aH} {n : Nat} {Q : aQ} {ar0 at3 : Nat} {x1 x2 v10 : Int} {f1 : List aV} {w8 : List Int} (h2 : h ar0 = cO 13 f1) (g4 : f1[0]? = some (vR (some at3))) (b5 : -2147483648 ≤ 2 * x1 ∧ 2 * x1 < 2147483648) (b6 : -2147483648 ≤ 83 + (2 * x1) ∧ 83 + (2 * x1) < 2147483648) (b7 : -2147483648 ≤ (83 + (2 * x1)) + x2 ∧ (83 + (2 * x1)) + x2 < 2147483648) (h9 : h at3 = cI w8) (i11 : 0 ≤ (83 + (2 * x1)) + x2) (g12 : w8[((83 + (2 * x1)) + x2 : Int).toNat]? = some v10) (k : Q (some (vI v10)) h n) : Rn d (bc) (bs) mX13_own 0 [some (vR (some ar0)), some (vI x1), some (vI x2)] [] h n Q := by
  refine Rn_aload_n dX13_own_0 rfl rfl rfl ?_
  refine Rn_getfield (ci := 13) (k := 0) dX13_own_1 rfl in_13 (Nat.le_of_ble_eq_true rfl) wd_1352 rfl h2 g4 ?_
  refine Rn_bipush dX13_own_4 rfl ?_
  refine Rn_iconst dX13_own_6 rfl ?_
  refine Rn_iload_n dX13_own_7 rfl rfl ?_
  refine Rn_imul dX13_own_8 ?_
  rw [w32_id b5.1 b5.2]
  refine Rn_iadd dX13_own_9 ?_
  rw [w32_id b6.1 b6.2]
  refine Rn_iload_n dX13_own_10 rfl rfl ?_
  refine Rn_iadd dX13_own_11 ?_
  rw [w32_id b7.1 b7.2]
  refine Rn_iaload dX13_own_12 h9 i11 g12 ?_
  exact Rn_ireturn rfl dX13_own_13 k
theorem dX13_isAfloat_0 : decode cX13_isAfloat 0 = .ok (.aload_n 0, 1) := by decide +kernel
theorem dX13_isAfloat_1 : decode cX13_isAfloat 1 = .ok (.iload_n 1, 1) := by decide +kernel
theorem dX13_isAfloat_2 : decode cX13_isAfloat 2 = .ok (.invokevirtual 76, 3) := by decide +kernel
theorem dX13_isAfloat_5 : decode cX13_isAfloat 5 = .ok (.ifCond .eq 16, 3) := by decide +kernel
theorem dX13_isAfloat_8 : decode cX13_isAfloat 8 = .ok (.aload_n 0, 1) := by decide +kernel
theorem dX13_isAfloat_9 : decode cX13_isAfloat 9 = .ok (.iload_n 1, 1) := by decide +kernel
theorem dX13_isAfloat_10 : decode cX13_isAfloat 10 = .ok (.iconst 4, 1) := by decide +kernel
theorem dX13_isAfloat_11 : decode cX13_isAfloat 11 = .ok (.invokevirtual 80, 3) := by decide +kernel
theorem dX13_isAfloat_14 : decode cX13_isAfloat 14 = .ok (.ifCond .ne 7, 3) := by decide +kernel
theorem dX13_isAfloat_17 : decode cX13_isAfloat 17 = .ok (.iconst 1, 1) := by decide +kernel
theorem dX13_isAfloat_18 : decode cX13_isAfloat 18 = .ok (.goto 4, 3) := by decide +kernel
theorem dX13_isAfloat_21 : decode cX13_isAfloat 21 = .ok (.iconst 0, 1) := by decide +kernel
theorem dX13_isAfloat_22 : decode cX13_isAfloat 22 = .ok (.ireturn, 1) := by decide +kernel
theorem BX13_isAfloat_0 {d bc bs : Nat} {h : aH} {n : Nat} {Q : aQ} {ar0 : Nat} {x1 : Int} {f1 : List aV} (h2 : h ar0 = cO 13 f1) (k : Rn d 0 0 mX13_isBottle 0 [some (vR (some ar0)), some (vI x1)] [] h n (fun v h1 n1 => Rn (d + 1) bc bs mX13_isAfloat 5 [some (vR (some ar0)), some (vI x1)] (v.toList ++ []) h1 n1 Q)) : Rn (d + 1) (bc) (bs) mX13_isAfloat 0 [some (vR (some ar0)), some (vI x1)] [] h n Q := by
  refine Rn_aload_n dX13_isAfloat_0 rfl rfl rfl ?_
  refine Rn_iload_n dX13_isAfloat_1 rfl rfl ?_
  exact Rn_callV (ci := 13) (avs := [vI x1]) (st := []) (bc1 := 0) (bs1 := 0) (bc2 := bc) (bs2 := bs) fx_X13_isBottle dX13_isAfloat_2 wd_1678 wd_1680 wd_81 rfl h2 rfl (Nat.le_of_ble_eq_true rfl) (Nat.le_of_ble_eq_true rfl) (by omega) (by omega) (ls1 := [some (vR (some ar0)), some (vI x1)]) rfl k
theorem BX13_isAfloat_5 {d bc bs : Nat} {h : aH} {n : Nat} {Q : aQ} {r0 : Option Nat} {x1 s0 : Int} (kt : s0 = 0 → Rn d bc bs mX13_isAfloat 21 [some (vR r0), some (vI x1)] [] h n Q) (kf : s0 ≠ 0 → Rn d bc bs mX13_isAfloat 8 [some (vR r0), some (vI x1)] [] h n Q) : Rn d (bc) (bs) mX13_isAfloat 5 [some (vR r0), some (vI x1)] [vI s0] h n Q := by
  refine Rn_ifeq (tgt := 21) dX13_isAfloat_5 rfl ?_ ?_
  · exact kt
  · exact kf
theorem BX13_isAfloat_8 {d bc bs : Nat} {h : aH} {n : Nat} {Q : aQ} {ar0 : Nat} {x1 : Int} {f1 : List aV} (h2 : h ar0 = cO 13 f1) (k : Rn d 0 0 mX13_get 0 [some (vR (some ar0)), some (vI x1), some (vI 4)] [] h n (fun v h1 n1 => Rn (d + 1) bc bs mX13_isAfloat 14 [some (vR (some ar0)), some (vI x1)] (v.toList ++ []) h1 n1 Q)) : Rn (d + 1) (bc) (bs) mX13_isAfloat 8 [some (vR (some ar0)), some (vI x1)] [] h n Q := by
  refine Rn_aload_n dX13_isAfloat_8 rfl rfl rfl ?_
  refine Rn_iload_n dX13_isAfloat_9 rfl rfl ?_
  refine Rn_iconst dX13_isAfloat_10 rfl ?_
  exact Rn_callV (ci := 13) (avs := [vI x1, vI 4]) (st := []) (bc1 := 0) (bs1 := 0) (bc2 := bc) (bs2 := bs) fx_X13_get dX13_isAfloat_11 wd_1682 wd_1684 wd_82 rfl h2 rfl (Nat.le_of_ble_eq_true rfl) (Nat.le_of_ble_eq_true rfl) (by omega) (by omega) (ls1 := [some (vR (some ar0)), some (vI x1), some (vI 4)]) rfl k
theorem BX13_isAfloat_14 {d bc bs : Nat} {h : aH} {n : Nat} {Q : aQ} {r0 : Option Nat} {x1 s0 : Int} (kt : s0 ≠ 0 → Rn d bc bs mX13_isAfloat 21 [some (vR r0), some (vI x1)] [] h n Q) (kf : s0 = 0 → Rn d bc bs mX13_isAfloat 17 [some (vR r0), some (vI x1)] [] h n Q) : Rn d (bc) (bs) mX13_isAfloat 14 [some (vR r0), some (vI x1)] [vI s0] h n Q := by
  refine Rn_ifne (tgt := 21) dX13_isAfloat_14 rfl ?_ ?_
  · exact kt
  · exact kf
theorem BX13_isAfloat_17 {d bc bs : Nat} {h : aH} {n : Nat} {Q : aQ} {r0 : Option Nat} {x1 : Int} (k : Q (some (vI 1)) h n) : Rn d (bc) (bs) mX13_isAfloat 17 [some (vR r0), some (vI x1)] [] h n Q := by
  refine Rn_iconst dX13_isAfloat_17 rfl ?_
  refine Rn_goto (tgt := 22) dX13_isAfloat_18 rfl ?_
  exact Rn_zreturn rfl dX13_isAfloat_22 (by decide) k
theorem BX13_isAfloat_21 {d bc bs : Nat} {h : aH} {n : Nat} {Q : aQ} {r0 : Option Nat} {x1 : Int} (k : Q (some (vI 0)) h n) : Rn d (bc) (bs) mX13_isAfloat 21 [some (vR r0), some (vI x1)] [] h n Q := by
  refine Rn_iconst dX13_isAfloat_21 rfl ?_
  exact Rn_zreturn rfl dX13_isAfloat_22 (by decide) k
theorem dX13_flowsTo_0 : decode cX13_flowsTo 0 = .ok (.aload_n 0, 1) := by decide +kernel
theorem dX13_flowsTo_1 : decode cX13_flowsTo 1 = .ok (.getfield 7, 3) := by decide +kernel
theorem dX13_flowsTo_4 : decode cX13_flowsTo 4 = .ok (.bipush 95, 2) := by decide +kernel
theorem dX13_flowsTo_6 : decode cX13_flowsTo 6 = .ok (.bipush 10, 2) := by decide +kernel
theorem dX13_flowsTo_8 : decode cX13_flowsTo 8 = .ok (.iload_n 1, 1) := by decide +kernel
theorem dX13_flowsTo_9 : decode cX13_flowsTo 9 = .ok (.iconst 3, 1) := by decide +kernel
theorem dX13_flowsTo_10 : decode cX13_flowsTo 10 = .ok (.irem, 1) := by decide +kernel
theorem dX13_flowsTo_11 : decode cX13_flowsTo 11 = .ok (.imul, 1) := by decide +kernel
theorem dX13_flowsTo_12 : decode cX13_flowsTo 12 = .ok (.iadd, 1) := by decide +kernel
theorem dX13_flowsTo_13 : decode cX13_flowsTo 13 = .ok (.iload_n 2, 1) := by decide +kernel
theorem dX13_flowsTo_14 : decode cX13_flowsTo 14 = .ok (.iadd, 1) := by decide +kernel
theorem dX13_flowsTo_15 : decode cX13_flowsTo 15 = .ok (.iaload, 1) := by decide +kernel
theorem dX13_flowsTo_16 : decode cX13_flowsTo 16 = .ok (.ireturn, 1) := by decide +kernel
theorem BX13_flowsTo_0 {d bc bs : Nat} {h : aH} {n : Nat} {Q : aQ} {ar0 at3 : Nat} {x1 x2 v11 : Int} {f1 : List aV} {w9 : List Int} (h2 : h ar0 = cO 13 f1) (g4 : f1[0]? = some (vR (some at3))) (b5 : 0 ≤ x1) (b6 : -2147483648 ≤ 10 * (x1 % 3) ∧ 10 * (x1 % 3) < 2147483648) (b7 : -2147483648 ≤ 95 + (10 * (x1 % 3)) ∧ 95 + (10 * (x1 % 3)) < 2147483648) (b8 : -2147483648 ≤ (95 + (10 * (x1 % 3))) + x2 ∧ (95 + (10 * (x1 % 3))) + x2 < 2147483648) (h10 : h at3 = cI w9) (i12 : 0 ≤ (95 + (10 * (x1 % 3))) + x2) (g13 : w9[((95 + (10 * (x1 % 3))) + x2 : Int).toNat]? = some v11) (k : Q (some (vI v11)) h n) : Rn d (bc) (bs) mX13_flowsTo 0 [some (vR (some ar0)), some (vI x1), some (vI x2)] [] h n Q := by
  refine Rn_aload_n dX13_flowsTo_0 rfl rfl rfl ?_
  refine Rn_getfield (ci := 13) (k := 0) dX13_flowsTo_1 rfl in_13 (Nat.le_of_ble_eq_true rfl) wd_1352 rfl h2 g4 ?_
  refine Rn_bipush dX13_flowsTo_4 rfl ?_
  refine Rn_bipush dX13_flowsTo_6 rfl ?_
  refine Rn_iload_n dX13_flowsTo_8 rfl rfl ?_
  refine Rn_iconst dX13_flowsTo_9 rfl ?_
  refine Rn_irem dX13_flowsTo_10 (by decide) ?_
  rw [Int.tmod_eq_emod_of_nonneg b5]
  refine Rn_imul dX13_flowsTo_11 ?_
  rw [w32_id b6.1 b6.2]
  refine Rn_iadd dX13_flowsTo_12 ?_
  rw [w32_id b7.1 b7.2]
  refine Rn_iload_n dX13_flowsTo_13 rfl rfl ?_
  refine Rn_iadd dX13_flowsTo_14 ?_
  rw [w32_id b8.1 b8.2]
  refine Rn_iaload dX13_flowsTo_15 h10 i12 g13 ?_
  exact Rn_ireturn rfl dX13_flowsTo_16 k
theorem dX13_person_0 : decode cX13_person 0 = .ok (.iload_n 1, 1) := by decide +kernel
theorem dX13_person_1 : decode cX13_person 1 = .ok (.invokestatic 84, 3) := by decide +kernel
theorem dX13_person_4 : decode cX13_person 4 = .ok (.ifCond .eq 24, 3) := by decide +kernel
theorem dX13_person_7 : decode cX13_person 7 = .ok (.iload_n 2, 1) := by decide +kernel
theorem dX13_person_8 : decode cX13_person 8 = .ok (.iconst 0, 1) := by decide +kernel
theorem dX13_person_9 : decode cX13_person 9 = .ok (.bipush 9, 2) := by decide +kernel
theorem dX13_person_11 : decode cX13_person 11 = .ok (.invokestatic 72, 3) := by decide +kernel
theorem dX13_person_14 : decode cX13_person 14 = .ok (.ifCond .eq 14, 3) := by decide +kernel
theorem dX13_person_17 : decode cX13_person 17 = .ok (.aload_n 0, 1) := by decide +kernel
theorem dX13_person_18 : decode cX13_person 18 = .ok (.getfield 7, 3) := by decide +kernel
theorem dX13_person_21 : decode cX13_person 21 = .ok (.iconst 0, 1) := by decide +kernel
theorem dX13_person_22 : decode cX13_person 22 = .ok (.iaload, 1) := by decide +kernel
theorem dX13_person_23 : decode cX13_person 23 = .ok (.bipush 6, 2) := by decide +kernel
theorem dX13_person_25 : decode cX13_person 25 = .ok (.if_icmp .ne 5, 3) := by decide +kernel
theorem dX13_person_28 : decode cX13_person 28 = .ok (.iconst (-1), 1) := by decide +kernel
theorem dX13_person_29 : decode cX13_person 29 = .ok (.ireturn, 1) := by decide +kernel
theorem dX13_person_30 : decode cX13_person 30 = .ok (.aload_n 0, 1) := by decide +kernel
theorem dX13_person_31 : decode cX13_person 31 = .ok (.getfield 7, 3) := by decide +kernel
theorem dX13_person_34 : decode cX13_person 34 = .ok (.bipush 83, 2) := by decide +kernel
theorem dX13_person_36 : decode cX13_person 36 = .ok (.iconst 2, 1) := by decide +kernel
theorem dX13_person_37 : decode cX13_person 37 = .ok (.aload_n 0, 1) := by decide +kernel
theorem dX13_person_38 : decode cX13_person 38 = .ok (.getfield 7, 3) := by decide +kernel
theorem dX13_person_41 : decode cX13_person 41 = .ok (.iconst 0, 1) := by decide +kernel
theorem dX13_person_42 : decode cX13_person 42 = .ok (.iaload, 1) := by decide +kernel
theorem dX13_person_43 : decode cX13_person 43 = .ok (.imul, 1) := by decide +kernel
theorem dX13_person_44 : decode cX13_person 44 = .ok (.iadd, 1) := by decide +kernel
theorem dX13_person_45 : decode cX13_person 45 = .ok (.iload_n 1, 1) := by decide +kernel
theorem dX13_person_46 : decode cX13_person 46 = .ok (.iastore, 1) := by decide +kernel
theorem dX13_person_47 : decode cX13_person 47 = .ok (.aload_n 0, 1) := by decide +kernel
theorem dX13_person_48 : decode cX13_person 48 = .ok (.getfield 7, 3) := by decide +kernel
theorem dX13_person_51 : decode cX13_person 51 = .ok (.bipush 83, 2) := by decide +kernel
theorem dX13_person_53 : decode cX13_person 53 = .ok (.iconst 2, 1) := by decide +kernel
theorem dX13_person_54 : decode cX13_person 54 = .ok (.aload_n 0, 1) := by decide +kernel
theorem dX13_person_55 : decode cX13_person 55 = .ok (.getfield 7, 3) := by decide +kernel
theorem dX13_person_58 : decode cX13_person 58 = .ok (.iconst 0, 1) := by decide +kernel
theorem dX13_person_59 : decode cX13_person 59 = .ok (.iaload, 1) := by decide +kernel
theorem dX13_person_60 : decode cX13_person 60 = .ok (.imul, 1) := by decide +kernel
theorem dX13_person_61 : decode cX13_person 61 = .ok (.iadd, 1) := by decide +kernel
theorem dX13_person_62 : decode cX13_person 62 = .ok (.iconst 1, 1) := by decide +kernel
theorem dX13_person_63 : decode cX13_person 63 = .ok (.iadd, 1) := by decide +kernel
theorem dX13_person_64 : decode cX13_person 64 = .ok (.iload_n 2, 1) := by decide +kernel
theorem dX13_person_65 : decode cX13_person 65 = .ok (.iastore, 1) := by decide +kernel
theorem dX13_person_66 : decode cX13_person 66 = .ok (.aload_n 0, 1) := by decide +kernel
theorem dX13_person_67 : decode cX13_person 67 = .ok (.getfield 7, 3) := by decide +kernel
theorem dX13_person_70 : decode cX13_person 70 = .ok (.iconst 0, 1) := by decide +kernel
theorem dX13_person_71 : decode cX13_person 71 = .ok (.dup2, 1) := by decide +kernel
theorem dX13_person_72 : decode cX13_person 72 = .ok (.iaload, 1) := by decide +kernel
theorem dX13_person_73 : decode cX13_person 73 = .ok (.iconst 1, 1) := by decide +kernel
theorem dX13_person_74 : decode cX13_person 74 = .ok (.iadd, 1) := by decide +kernel
theorem dX13_person_75 : decode cX13_person 75 = .ok (.iastore, 1) := by decide +kernel
theorem dX13_person_76 : decode cX13_person 76 = .ok (.aload_n 0, 1) := by decide +kernel
theorem dX13_person_77 : decode cX13_person 77 = .ok (.getfield 7, 3) := by decide +kernel
theorem dX13_person_80 : decode cX13_person 80 = .ok (.iconst 0, 1) := by decide +kernel
theorem dX13_person_81 : decode cX13_person 81 = .ok (.iaload, 1) := by decide +kernel
theorem dX13_person_82 : decode cX13_person 82 = .ok (.iconst 1, 1) := by decide +kernel
theorem dX13_person_83 : decode cX13_person 83 = .ok (.isub, 1) := by decide +kernel
theorem dX13_person_84 : decode cX13_person 84 = .ok (.ireturn, 1) := by decide +kernel
theorem BX13_person_0 {d bc bs : Nat} {h : aH} {n : Nat} {Q : aQ} {r0 : Option Nat} {x1 x2 : Int} (k : Rn d 0 0 mX13_isPlace 0 [some (vI x1)] [] h n (fun v h1 n1 => Rn (d + 1) bc bs mX13_person 4 [some (vR r0), some (vI x1), some (vI x2)] (v.toList ++ []) h1 n1 Q)) : Rn (d + 1) (bc) (bs) mX13_person 0 [some (vR r0), some (vI x1), some (vI x2)] [] h n Q := by
  refine Rn_iload_n dX13_person_0 rfl rfl ?_
  exact Rn_callS (avs := [vI x1]) (st := []) (bc1 := 0) (bs1 := 0) (bc2 := bc) (bs2 := bs) fx_X13_isPlace dX13_person_1 (Or.inl wd_1460) wd_1461 rfl (Nat.le_of_ble_eq_true rfl) (Nat.le_of_ble_eq_true rfl) (by omega) (by omega) (ls1 := [some (vI x1)]) rfl k
theorem BX13_person_4 {d bc bs : Nat} {h : aH} {n : Nat} {Q : aQ} {r0 : Option Nat} {x1 x2 s0 : Int} (kt : s0 = 0 → Rn d bc bs mX13_person 28 [some (vR r0), some (vI x1), some (vI x2)] [] h n Q) (kf : s0 ≠ 0 → Rn d bc bs mX13_person 7 [some (vR r0), some (vI x1), some (vI x2)] [] h n Q) : Rn d (bc) (bs) mX13_person 4 [some (vR r0), some (vI x1), some (vI x2)] [vI s0] h n Q := by
  refine Rn_ifeq (tgt := 28) dX13_person_4 rfl ?_ ?_
  · exact kt
  · exact kf
theorem BX13_person_7 {d bc bs : Nat} {h : aH} {n : Nat} {Q : aQ} {r0 : Option Nat} {x1 x2 : Int} (k : Rn d 0 0 mX13_isIn 0 [some (vI x2), some (vI 0), some (vI 9)] [] h n (fun v h1 n1 => Rn (d + 1) bc bs mX13_person 14 [some (vR r0), some (vI x1), some (vI x2)] (v.toList ++ []) h1 n1 Q)) : Rn (d + 1) (bc) (bs) mX13_person 7 [some (vR r0), some (vI x1), some (vI x2)] [] h n Q := by
  refine Rn_iload_n dX13_person_7 rfl rfl ?_
  refine Rn_iconst dX13_person_8 rfl ?_
  refine Rn_bipush dX13_person_9 rfl ?_
  exact Rn_callS (avs := [vI x2, vI 0, vI 9]) (st := []) (bc1 := 0) (bs1 := 0) (bc2 := bc) (bs2 := bs) fx_X13_isIn dX13_person_11 (Or.inl wd_1463) wd_1464 rfl (Nat.le_of_ble_eq_true rfl) (Nat.le_of_ble_eq_true rfl) (by omega) (by omega) (ls1 := [some (vI x2), some (vI 0), some (vI 9)]) rfl k
theorem BX13_person_14 {d bc bs : Nat} {h : aH} {n : Nat} {Q : aQ} {r0 : Option Nat} {x1 x2 s0 : Int} (kt : s0 = 0 → Rn d bc bs mX13_person 28 [some (vR r0), some (vI x1), some (vI x2)] [] h n Q) (kf : s0 ≠ 0 → Rn d bc bs mX13_person 17 [some (vR r0), some (vI x1), some (vI x2)] [] h n Q) : Rn d (bc) (bs) mX13_person 14 [some (vR r0), some (vI x1), some (vI x2)] [vI s0] h n Q := by
  refine Rn_ifeq (tgt := 28) dX13_person_14 rfl ?_ ?_
  · exact kt
  · exact kf
theorem BX13_person_17 {d bc bs : Nat} {h : aH} {n : Nat} {Q : aQ} {ar0 at3 : Nat} {x1 x2 v7 : Int} {f1 : List aV} {w5 : List Int} (h2 : h ar0 = cO 13 f1) (g4 : f1[0]? = some (vR (some at3))) (h6 : h at3 = cI w5) (g8 : w5[(0 : Int).toNat]? = some v7) (kt : v7 ≠ 6 → Rn d bc bs mX13_person 30 [some (vR (some ar0)), some (vI x1), some (vI x2)] [] h n Q) (kf : v7 = 6 → Rn d bc bs mX13_person 28 [some (vR (some ar0)), some (vI x1), some (vI x2)] [] h n Q) : Rn d (bc) (bs) mX13_person 17 [some (vR (some ar0)), some (vI x1), some (vI x2)] [] h n Q := by
  refine Rn_aload_n dX13_person_17 rfl rfl rfl ?_
  refine Rn_getfield (ci := 13) (k := 0) dX13_person_18 rfl in_13 (Nat.le_of_ble_eq_true rfl) wd_1352 rfl h2 g4 ?_
  refine Rn_iconst dX13_person_21 rfl ?_
  refine Rn_iaload dX13_person_22 h6 (by decide) g8 ?_
  refine Rn_bipush dX13_person_23 rfl ?_
  refine Rn_icmpne (tgt := 30) dX13_person_25 rfl ?_ ?_
  · exact kt
  · exact kf
theorem BX13_person_28 {d bc bs : Nat} {h : aH} {n : Nat} {Q : aQ} {r0 : Option Nat} {x1 x2 : Int} (k : Q (some (vI (-1))) h n) : Rn d (bc) (bs) mX13_person 28 [some (vR r0), some (vI x1), some (vI x2)] [] h n Q := by
  refine Rn_iconst dX13_person_28 rfl ?_
  exact Rn_ireturn rfl dX13_person_29 k
theorem BX13_person_30 {d bc bs : Nat} {h : aH} {n : Nat} {Q : aQ} {ar0 at3 : Nat} {x1 x2 v7 : Int} {f1 : List aV} {w5 : List Int} (h2 : h ar0 = cO 13 f1) (g4 : f1[0]? = some (vR (some at3))) (h6 : h at3 = cI w5) (g8 : w5[(0 : Int).toNat]? = some v7) (b9 : -2147483648 ≤ 2 * v7 ∧ 2 * v7 < 2147483648) (b10 : -2147483648 ≤ 83 + (2 * v7) ∧ 83 + (2 * v7) < 2147483648) (i11 : 0 ≤ 83 + (2 * v7)) (j12 : 83 + (2 * v7) < w5.length) (z13 : at3 ≠ 0) (k : Rn d bc bs mX13_person 47 [some (vR (some ar0)), some (vI x1), some (vI x2)] [] (up h at3 (cI (w5.set (83 + (2 * v7) : Int).toNat x1))) n Q) : Rn d (bc) (bs) mX13_person 30 [some (vR (some ar0)), some (vI x1), some (vI x2)] [] h n Q := by
  refine Rn_aload_n dX13_person_30 rfl rfl rfl ?_
  refine Rn_getfield (ci := 13) (k := 0) dX13_person_31 rfl in_13 (Nat.le_of_ble_eq_true rfl) wd_1352 rfl h2 g4 ?_
  refine Rn_bipush dX13_person_34 rfl ?_
  refine Rn_iconst dX13_person_36 rfl ?_
  refine Rn_aload_n dX13_person_37 rfl rfl rfl ?_
  refine Rn_getfield (ci := 13) (k := 0) dX13_person_38 rfl in_13 (Nat.le_of_ble_eq_true rfl) wd_1352 rfl h2 g4 ?_
  refine Rn_iconst dX13_person_41 rfl ?_
  refine Rn_iaload dX13_person_42 h6 (by decide) g8 ?_
  refine Rn_imul dX13_person_43 ?_
  rw [w32_id b9.1 b9.2]
  refine Rn_iadd dX13_person_44 ?_
  rw [w32_id b10.1 b10.2]
  refine Rn_iload_n dX13_person_45 rfl rfl ?_
  refine Rn_iastore dX13_person_46 z13 h6 i11 j12 ?_
  exact k
theorem BX13_person_47 {d bc bs : Nat} {h : aH} {n : Nat} {Q : aQ} {ar0 at3 : Nat} {x1 x2 v7 : Int} {f1 : List aV} {w5 : List Int} (h2 : h ar0 = cO 13 f1) (g4 : f1[0]? = some (vR (some at3))) (h6 : h at3 = cI w5) (g8 : w5[(0 : Int).toNat]? = some v7) (b9 : -2147483648 ≤ 2 * v7 ∧ 2 * v7 < 2147483648) (b10 : -2147483648 ≤ 83 + (2 * v7) ∧ 83 + (2 * v7) < 2147483648) (b11 : -2147483648 ≤ (83 + (2 * v7)) + 1 ∧ (83 + (2 * v7)) + 1 < 2147483648) (i12 : 0 ≤ (83 + (2 * v7)) + 1) (j13 : (83 + (2 * v7)) + 1 < w5.length) (z14 : at3 ≠ 0) (k : Rn d bc bs mX13_person 66 [some (vR (some ar0)), some (vI x1), some (vI x2)] [] (up h at3 (cI (w5.set ((83 + (2 * v7)) + 1 : Int).toNat x2))) n Q) : Rn d (bc) (bs) mX13_person 47 [some (vR (some ar0)), some (vI x1), some (vI x2)] [] h n Q := by
  refine Rn_aload_n dX13_person_47 rfl rfl rfl ?_
  refine Rn_getfield (ci := 13) (k := 0) dX13_person_48 rfl in_13 (Nat.le_of_ble_eq_true rfl) wd_1352 rfl h2 g4 ?_
  refine Rn_bipush dX13_person_51 rfl ?_
  refine Rn_iconst dX13_person_53 rfl ?_
  refine Rn_aload_n dX13_person_54 rfl rfl rfl ?_
  refine Rn_getfield (ci := 13) (k := 0) dX13_person_55 rfl in_13 (Nat.le_of_ble_eq_true rfl) wd_1352 rfl h2 g4 ?_
  refine Rn_iconst dX13_person_58 rfl ?_
  refine Rn_iaload dX13_person_59 h6 (by decide) g8 ?_
  refine Rn_imul dX13_person_60 ?_
  rw [w32_id b9.1 b9.2]
  refine Rn_iadd dX13_person_61 ?_
  rw [w32_id b10.1 b10.2]
  refine Rn_iconst dX13_person_62 rfl ?_
  refine Rn_iadd dX13_person_63 ?_
  rw [w32_id b11.1 b11.2]
  refine Rn_iload_n dX13_person_64 rfl rfl ?_
  refine Rn_iastore dX13_person_65 z14 h6 i12 j13 ?_
  exact k
theorem BX13_person_66 {d bc bs : Nat} {h : aH} {n : Nat} {Q : aQ} {ar0 at3 : Nat} {x1 x2 v7 : Int} {f1 : List aV} {w5 : List Int} (h2 : h ar0 = cO 13 f1) (g4 : f1[0]? = some (vR (some at3))) (h6 : h at3 = cI w5) (g8 : w5[(0 : Int).toNat]? = some v7) (b9 : -2147483648 ≤ v7 + 1 ∧ v7 + 1 < 2147483648) (j10 : (0 : Int) < w5.length) (z11 : at3 ≠ 0) (k : Rn d bc bs mX13_person 76 [some (vR (some ar0)), some (vI x1), some (vI x2)] [] (up h at3 (cI (w5.set (0 : Int).toNat (v7 + 1)))) n Q) : Rn d (bc) (bs) mX13_person 66 [some (vR (some ar0)), some (vI x1), some (vI x2)] [] h n Q := by
  refine Rn_aload_n dX13_person_66 rfl rfl rfl ?_
  refine Rn_getfield (ci := 13) (k := 0) dX13_person_67 rfl in_13 (Nat.le_of_ble_eq_true rfl) wd_1352 rfl h2 g4 ?_
  refine Rn_iconst dX13_person_70 rfl ?_
  refine Rn_dup2 dX13_person_71 rfl rfl ?_
  refine Rn_iaload dX13_person_72 h6 (by decide) g8 ?_
  refine Rn_iconst dX13_person_73 rfl ?_
  refine Rn_iadd dX13_person_74 ?_
  rw [w32_id b9.1 b9.2]
  refine Rn_iastore dX13_person_75 z11 h6 (by decide) j10 ?_
  exact k
theorem BX13_person_76 {d bc bs : Nat} {h : aH} {n : Nat} {Q : aQ} {ar0 at3 : Nat} {x1 x2 v7 : Int} {f1 : List aV} {w5 : List Int} (h2 : h ar0 = cO 13 f1) (g4 : f1[0]? = some (vR (some at3))) (h6 : h at3 = cI w5) (g8 : w5[(0 : Int).toNat]? = some v7) (b9 : -2147483648 ≤ v7 - 1 ∧ v7 - 1 < 2147483648) (k : Q (some (vI (v7 - 1))) h n) : Rn d (bc) (bs) mX13_person 76 [some (vR (some ar0)), some (vI x1), some (vI x2)] [] h n Q := by
  refine Rn_aload_n dX13_person_76 rfl rfl rfl ?_
  refine Rn_getfield (ci := 13) (k := 0) dX13_person_77 rfl in_13 (Nat.le_of_ble_eq_true rfl) wd_1352 rfl h2 g4 ?_
  refine Rn_iconst dX13_person_80 rfl ?_
  refine Rn_iaload dX13_person_81 h6 (by decide) g8 ?_
  refine Rn_iconst dX13_person_82 rfl ?_
  refine Rn_isub dX13_person_83 ?_
  rw [w32_id b9.1 b9.2]
  exact Rn_ireturn rfl dX13_person_84 k
theorem dX13_current_0 : decode cX13_current 0 = .ok (.iload_n 1, 1) := by decide +kernel
theorem dX13_current_1 : decode cX13_current 1 = .ok (.iconst 0, 1) := by decide +kernel
theorem dX13_current_2 : decode cX13_current 2 = .ok (.iconst 2, 1) := by decide +kernel
theorem dX13_current_3 : decode cX13_current 3 = .ok (.invokestatic 72, 3) := by decide +kernel
theorem dX13_current_6 : decode cX13_current 6 = .ok (.ifCond .eq 17, 3) := by decide +kernel
theorem dX13_current_9 : decode cX13_current 9 = .ok (.iload_n 2, 1) := by decide +kernel
theorem dX13_current_10 : decode cX13_current 10 = .ok (.invokestatic 84, 3) := by decide +kernel
theorem dX13_current_13 : decode cX13_current 13 = .ok (.ifCond .eq 10, 3) := by decide +kernel
theorem dX13_current_16 : decode cX13_current 16 = .ok (.iload_n 3, 1) := by decide +kernel
theorem dX13_current_17 : decode cX13_current 17 = .ok (.invokestatic 84, 3) := by decide +kernel
theorem dX13_current_20 : decode cX13_current 20 = .ok (.ifCond .ne 5, 3) := by decide +kernel
theorem dX13_current_23 : decode cX13_current 23 = .ok (.iconst 0, 1) := by decide +kernel
theorem dX13_current_24 : decode cX13_current 24 = .ok (.ireturn, 1) := by decide +kernel
theorem dX13_current_25 : decode cX13_current 25 = .ok (.aload_n 0, 1) := by decide +kernel
theorem dX13_current_26 : decode cX13_current 26 = .ok (.getfield 7, 3) := by decide +kernel
theorem dX13_current_29 : decode cX13_current 29 = .ok (.bipush 95, 2) := by decide +kernel
theorem dX13_current_31 : decode cX13_current 31 = .ok (.bipush 10, 2) := by decide +kernel
theorem dX13_current_33 : decode cX13_current 33 = .ok (.iload_n 1, 1) := by decide +kernel
theorem dX13_current_34 : decode cX13_current 34 = .ok (.imul, 1) := by decide +kernel
theorem dX13_current_35 : decode cX13_current 35 = .ok (.iadd, 1) := by decide +kernel
theorem dX13_current_36 : decode cX13_current 36 = .ok (.iload_n 2, 1) := by decide +kernel
theorem dX13_current_37 : decode cX13_current 37 = .ok (.iadd, 1) := by decide +kernel
theorem dX13_current_38 : decode cX13_current 38 = .ok (.iload_n 3, 1) := by decide +kernel
theorem dX13_current_39 : decode cX13_current 39 = .ok (.iastore, 1) := by decide +kernel
theorem dX13_current_40 : decode cX13_current 40 = .ok (.iconst 1, 1) := by decide +kernel
theorem dX13_current_41 : decode cX13_current 41 = .ok (.ireturn, 1) := by decide +kernel
theorem BX13_current_0 {d bc bs : Nat} {h : aH} {n : Nat} {Q : aQ} {r0 : Option Nat} {x1 x2 x3 : Int} (k : Rn d 0 0 mX13_isIn 0 [some (vI x1), some (vI 0), some (vI 2)] [] h n (fun v h1 n1 => Rn (d + 1) bc bs mX13_current 6 [some (vR r0), some (vI x1), some (vI x2), some (vI x3)] (v.toList ++ []) h1 n1 Q)) : Rn (d + 1) (bc) (bs) mX13_current 0 [some (vR r0), some (vI x1), some (vI x2), some (vI x3)] [] h n Q := by
  refine Rn_iload_n dX13_current_0 rfl rfl ?_
  refine Rn_iconst dX13_current_1 rfl ?_
  refine Rn_iconst dX13_current_2 rfl ?_
  exact Rn_callS (avs := [vI x1, vI 0, vI 2]) (st := []) (bc1 := 0) (bs1 := 0) (bc2 := bc) (bs2 := bs) fx_X13_isIn dX13_current_3 (Or.inl wd_1463) wd_1464 rfl (Nat.le_of_ble_eq_true rfl) (Nat.le_of_ble_eq_true rfl) (by omega) (by omega) (ls1 := [some (vI x1), some (vI 0), some (vI 2)]) rfl k
theorem BX13_current_6 {d bc bs : Nat} {h : aH} {n : Nat} {Q : aQ} {r0 : Option Nat} {x1 x2 x3 s0 : Int} (kt : s0 = 0 → Rn d bc bs mX13_current 23 [some (vR r0), some (vI x1), some (vI x2), some (vI x3)] [] h n Q) (kf : s0 ≠ 0 → Rn d bc bs mX13_current 9 [some (vR r0), some (vI x1), some (vI x2), some (vI x3)] [] h n Q) : Rn d (bc) (bs) mX13_current 6 [some (vR r0), some (vI x1), some (vI x2), some (vI x3)] [vI s0] h n Q := by
  refine Rn_ifeq (tgt := 23) dX13_current_6 rfl ?_ ?_
  · exact kt
  · exact kf
theorem BX13_current_9 {d bc bs : Nat} {h : aH} {n : Nat} {Q : aQ} {r0 : Option Nat} {x1 x2 x3 : Int} (k : Rn d 0 0 mX13_isPlace 0 [some (vI x2)] [] h n (fun v h1 n1 => Rn (d + 1) bc bs mX13_current 13 [some (vR r0), some (vI x1), some (vI x2), some (vI x3)] (v.toList ++ []) h1 n1 Q)) : Rn (d + 1) (bc) (bs) mX13_current 9 [some (vR r0), some (vI x1), some (vI x2), some (vI x3)] [] h n Q := by
  refine Rn_iload_n dX13_current_9 rfl rfl ?_
  exact Rn_callS (avs := [vI x2]) (st := []) (bc1 := 0) (bs1 := 0) (bc2 := bc) (bs2 := bs) fx_X13_isPlace dX13_current_10 (Or.inl wd_1460) wd_1461 rfl (Nat.le_of_ble_eq_true rfl) (Nat.le_of_ble_eq_true rfl) (by omega) (by omega) (ls1 := [some (vI x2)]) rfl k
theorem BX13_current_13 {d bc bs : Nat} {h : aH} {n : Nat} {Q : aQ} {r0 : Option Nat} {x1 x2 x3 s0 : Int} (kt : s0 = 0 → Rn d bc bs mX13_current 23 [some (vR r0), some (vI x1), some (vI x2), some (vI x3)] [] h n Q) (kf : s0 ≠ 0 → Rn d bc bs mX13_current 16 [some (vR r0), some (vI x1), some (vI x2), some (vI x3)] [] h n Q) : Rn d (bc) (bs) mX13_current 13 [some (vR r0), some (vI x1), some (vI x2), some (vI x3)] [vI s0] h n Q := by
  refine Rn_ifeq (tgt := 23) dX13_current_13 rfl ?_ ?_
  · exact kt
  · exact kf
theorem BX13_current_16 {d bc bs : Nat} {h : aH} {n : Nat} {Q : aQ} {r0 : Option Nat} {x1 x2 x3 : Int} (k : Rn d 0 0 mX13_isPlace 0 [some (vI x3)] [] h n (fun v h1 n1 => Rn (d + 1) bc bs mX13_current 20 [some (vR r0), some (vI x1), some (vI x2), some (vI x3)] (v.toList ++ []) h1 n1 Q)) : Rn (d + 1) (bc) (bs) mX13_current 16 [some (vR r0), some (vI x1), some (vI x2), some (vI x3)] [] h n Q := by
  refine Rn_iload_n dX13_current_16 rfl rfl ?_
  exact Rn_callS (avs := [vI x3]) (st := []) (bc1 := 0) (bs1 := 0) (bc2 := bc) (bs2 := bs) fx_X13_isPlace dX13_current_17 (Or.inl wd_1460) wd_1461 rfl (Nat.le_of_ble_eq_true rfl) (Nat.le_of_ble_eq_true rfl) (by omega) (by omega) (ls1 := [some (vI x3)]) rfl k
theorem BX13_current_20 {d bc bs : Nat} {h : aH} {n : Nat} {Q : aQ} {r0 : Option Nat} {x1 x2 x3 s0 : Int} (kt : s0 ≠ 0 → Rn d bc bs mX13_current 25 [some (vR r0), some (vI x1), some (vI x2), some (vI x3)] [] h n Q) (kf : s0 = 0 → Rn d bc bs mX13_current 23 [some (vR r0), some (vI x1), some (vI x2), some (vI x3)] [] h n Q) : Rn d (bc) (bs) mX13_current 20 [some (vR r0), some (vI x1), some (vI x2), some (vI x3)] [vI s0] h n Q := by
  refine Rn_ifne (tgt := 25) dX13_current_20 rfl ?_ ?_
  · exact kt
  · exact kf
theorem BX13_current_23 {d bc bs : Nat} {h : aH} {n : Nat} {Q : aQ} {r0 : Option Nat} {x1 x2 x3 : Int} (k : Q (some (vI 0)) h n) : Rn d (bc) (bs) mX13_current 23 [some (vR r0), some (vI x1), some (vI x2), some (vI x3)] [] h n Q := by
  refine Rn_iconst dX13_current_23 rfl ?_
  exact Rn_zreturn rfl dX13_current_24 (by decide) k
theorem BX13_current_25 {d bc bs : Nat} {h : aH} {n : Nat} {Q : aQ} {ar0 at3 : Nat} {x1 x2 x3 : Int} {f1 : List aV} {w8 : List Int} (h2 : h ar0 = cO 13 f1) (g4 : f1[0]? = some (vR (some at3))) (b5 : -2147483648 ≤ 10 * x1 ∧ 10 * x1 < 2147483648) (b6 : -2147483648 ≤ 95 + (10 * x1) ∧ 95 + (10 * x1) < 2147483648) (b7 : -2147483648 ≤ (95 + (10 * x1)) + x2 ∧ (95 + (10 * x1)) + x2 < 2147483648) (h9 : h at3 = cI w8) (i10 : 0 ≤ (95 + (10 * x1)) + x2) (j11 : (95 + (10 * x1)) + x2 < w8.length) (z12 : at3 ≠ 0) (k : Rn d bc bs mX13_current 40 [some (vR (some ar0)), some (vI x1), some (vI x2), some (vI x3)] [] (up h at3 (cI (w8.set ((95 + (10 * x1)) + x2 : Int).toNat x3))) n Q) : Rn d (bc) (bs) mX13_current 25 [some (vR (some ar0)), some (vI x1), some (vI x2), some (vI x3)] [] h n Q := by
  refine Rn_aload_n dX13_current_25 rfl rfl rfl ?_
  refine Rn_getfield (ci := 13) (k := 0) dX13_current_26 rfl in_13 (Nat.le_of_ble_eq_true rfl) wd_1352 rfl h2 g4 ?_
  refine Rn_bipush dX13_current_29 rfl ?_
  refine Rn_bipush dX13_current_31 rfl ?_
  refine Rn_iload_n dX13_current_33 rfl rfl ?_
  refine Rn_imul dX13_current_34 ?_
  rw [w32_id b5.1 b5.2]
  refine Rn_iadd dX13_current_35 ?_
  rw [w32_id b6.1 b6.2]
  refine Rn_iload_n dX13_current_36 rfl rfl ?_
  refine Rn_iadd dX13_current_37 ?_
  rw [w32_id b7.1 b7.2]
  refine Rn_iload_n dX13_current_38 rfl rfl ?_
  refine Rn_iastore dX13_current_39 z12 h9 i10 j11 ?_
  exact k
theorem BX13_current_40 {d bc bs : Nat} {h : aH} {n : Nat} {Q : aQ} {r0 : Option Nat} {x1 x2 x3 : Int} (k : Q (some (vI 1)) h n) : Rn d (bc) (bs) mX13_current 40 [some (vR r0), some (vI x1), some (vI x2), some (vI x3)] [] h n Q := by
  refine Rn_iconst dX13_current_40 rfl ?_
  exact Rn_zreturn rfl dX13_current_41 (by decide) k
theorem dX13_four_0 : decode cX13_four 0 = .ok (.bipush 24, 2) := by decide +kernel
theorem dX13_four_2 : decode cX13_four 2 = .ok (.istore_n 2, 1) := by decide +kernel
theorem dX13_four_3 : decode cX13_four 3 = .ok (.iload_n 2, 1) := by decide +kernel
theorem dX13_four_4 : decode cX13_four 4 = .ok (.ifCond .lt 35, 3) := by decide +kernel
theorem dX13_four_7 : decode cX13_four 7 = .ok (.aload_n 0, 1) := by decide +kernel
theorem dX13_four_8 : decode cX13_four 8 = .ok (.getfield 19, 3) := by decide +kernel
theorem dX13_four_11 : decode cX13_four 11 = .ok (.aload_n 0, 1) := by decide +kernel
theorem dX13_four_12 : decode cX13_four 12 = .ok (.getfield 87, 3) := by decide +kernel
theorem dX13_four_15 : decode cX13_four 15 = .ok (.iload_n 1, 1) := by decide +kernel
theorem dX13_four_16 : decode cX13_four 16 = .ok (.iload_n 2, 1) := by decide +kernel
theorem dX13_four_17 : decode cX13_four 17 = .ok (.ishr, 1) := by decide +kernel
theorem dX13_four_18 : decode cX13_four 18 = .ok (.sipush 255, 3) := by decide +kernel
theorem dX13_four_21 : decode cX13_four 21 = .ok (.iand, 1) := by decide +kernel
theorem dX13_four_22 : decode cX13_four 22 = .ok (.iastore, 1) := by decide +kernel
theorem dX13_four_23 : decode cX13_four 23 = .ok (.aload_n 0, 1) := by decide +kernel
theorem dX13_four_24 : decode cX13_four 24 = .ok (.dup, 1) := by decide +kernel
theorem dX13_four_25 : decode cX13_four 25 = .ok (.getfield 87, 3) := by decide +kernel
theorem dX13_four_28 : decode cX13_four 28 = .ok (.iconst 1, 1) := by decide +kernel
theorem dX13_four_29 : decode cX13_four 29 = .ok (.iadd, 1) := by decide +kernel
theorem dX13_four_30 : decode cX13_four 30 = .ok (.putfield 87, 3) := by decide +kernel
theorem dX13_four_33 : decode cX13_four 33 = .ok (.iinc 2 (-8), 3) := by decide +kernel
theorem dX13_four_36 : decode cX13_four 36 = .ok (.goto (-33), 3) := by decide +kernel
theorem dX13_four_39 : decode cX13_four 39 = .ok (.return_, 1) := by decide +kernel
theorem BX13_four_0 {d bc bs : Nat} {h : aH} {n : Nat} {Q : aQ} {r0 : Option Nat} {x1 : Int} {l2 : Option aV} (k : Rn d bc bs mX13_four 3 [some (vR r0), some (vI x1), some (vI 24)] [] h n Q) : Rn d (bc) (bs) mX13_four 0 [some (vR r0), some (vI x1), l2] [] h n Q := by
  refine Rn_bipush dX13_four_0 rfl ?_
  refine Rn_istore_n dX13_four_2 rfl (Nat.le_of_ble_eq_true rfl) rfl rfl ?_
  exact k
theorem BX13_four_3 {d bc bs : Nat} {h : aH} {n : Nat} {Q : aQ} {r0 : Option Nat} {x1 x2 : Int} (kt : x2 < 0 → Rn d bc bs mX13_four 39 [some (vR r0), some (vI x1), some (vI x2)] [] h n Q) (kf : 0 ≤ x2 → Rn d bc bs mX13_four 7 [some (vR r0), some (vI x1), some (vI x2)] [] h n Q) : Rn d (bc) (bs) mX13_four 3 [some (vR r0), some (vI x1), some (vI x2)] [] h n Q := by
  refine Rn_iload_n dX13_four_3 rfl rfl ?_
  refine Rn_iflt (tgt := 39) dX13_four_4 rfl ?_ ?_
  · exact kt
  · exact kf
theorem BX13_four_7 {d bc bs : Nat} {h : aH} {n : Nat} {Q : aQ} {ar0 at3 : Nat} {x1 x2 v5 : Int} {f1 : List aV} {w7 : List Int} (h2 : h ar0 = cO 13 f1) (g4 : f1[3]? = some (vR (some at3))) (g6 : f1[4]? = some (vI v5)) (h8 : h at3 = cI w7) (i9 : 0 ≤ v5) (j10 : v5 < w7.length) (z11 : at3 ≠ 0) (k : Rn d bc bs mX13_four 23 [some (vR (some ar0)), some (vI x1), some (vI x2)] [] (up h at3 (cI (w7.set (v5 : Int).toNat (and32 (shr32 x1 x2) 255)))) n Q) : Rn d (bc) (bs) mX13_four 7 [some (vR (some ar0)), some (vI x1), some (vI x2)] [] h n Q := by
  refine Rn_aload_n dX13_four_7 rfl rfl rfl ?_
  refine Rn_getfield (ci := 13) (k := 3) dX13_four_8 rfl in_13 (Nat.le_of_ble_eq_true rfl) wd_1355 rfl h2 g4 ?_
  refine Rn_aload_n dX13_four_11 rfl rfl rfl ?_
  refine Rn_getfield (ci := 13) (k := 4) dX13_four_12 rfl in_13 (Nat.le_of_ble_eq_true rfl) wd_1356 rfl h2 g6 ?_
  refine Rn_iload_n dX13_four_15 rfl rfl ?_
  refine Rn_iload_n dX13_four_16 rfl rfl ?_
  refine Rn_ishr dX13_four_17 ?_
  refine Rn_sipush dX13_four_18 rfl ?_
  refine Rn_iand dX13_four_21 ?_
  refine Rn_iastore dX13_four_22 z11 h8 i9 j10 ?_
  exact k
theorem BX13_four_23 {d bc bs : Nat} {h : aH} {n : Nat} {Q : aQ} {ar0 : Nat} {x1 x2 v3 : Int} {f1 : List aV} (h2 : h ar0 = cO 13 f1) (g4 : f1[4]? = some (vI v3)) (b5 : -2147483648 ≤ v3 + 1 ∧ v3 + 1 < 2147483648) (m6 : 4 < f1.length) (k : Rn d bc bs mX13_four 33 [some (vR (some ar0)), some (vI x1), some (vI x2)] [] (up h ar0 (cO 13 (f1.set 4 (vI (v3 + 1))))) n Q) : Rn d (bc) (bs) mX13_four 23 [some (vR (some ar0)), some (vI x1), some (vI x2)] [] h n Q := by
  refine Rn_aload_n dX13_four_23 rfl rfl rfl ?_
  refine Rn_dup dX13_four_24 rfl ?_
  refine Rn_getfield (ci := 13) (k := 4) dX13_four_25 rfl in_13 (Nat.le_of_ble_eq_true rfl) wd_1356 rfl h2 g4 ?_
  refine Rn_iconst dX13_four_28 rfl ?_
  refine Rn_iadd dX13_four_29 ?_
  rw [w32_id b5.1 b5.2]
  refine Rn_putfield (ci := 13) (k := 4) dX13_four_30 rfl in_13 tyX13_ok nmX13 (Nat.le_of_ble_eq_true rfl) wd_1356 rfl (Or.inl rfl) trivial m6 h2 ?_
  exact k
theorem BX13_four_33 {d bc bs : Nat} {h : aH} {n : Nat} {Q : aQ} {r0 : Option Nat} {x1 x2 : Int} (b1 : -2147483648 ≤ x2 + (-8) ∧ x2 + (-8) < 2147483648) (k : Rn d bc bs mX13_four 3 [some (vR r0), some (vI x1), some (vI (x2 + (-8)))] [] h n Q) : Rn d (bc) (bs) mX13_four 33 [some (vR r0), some (vI x1), some (vI x2)] [] h n Q := by
  refine Rn_iinc dX13_four_33 rfl (Nat.le_of_ble_eq_true rfl) rfl rfl rfl ?_
  rw [w32_id b1.1 b1.2]
  refine Rn_goto (tgt := 3) dX13_four_36 rfl ?_
  exact k
theorem BX13_four_39 {d bc bs : Nat} {h : aH} {n : Nat} {Q : aQ} {r0 : Option Nat} {x1 x2 : Int} (k : Q none h n) : Rn d (bc) (bs) mX13_four 39 [some (vR r0), some (vI x1), some (vI x2)] [] h n Q := by
  exact Rn_return rfl dX13_four_39 k
theorem dX13_feed_0 : decode cX13_feed 0 = .ok (.aload_n 0, 1) := by decide +kernel
theorem dX13_feed_1 : decode cX13_feed 1 = .ok (.getfield 87, 3) := by decide +kernel
theorem dX13_feed_4 : decode cX13_feed 4 = .ok (.bipush 20, 2) := by decide +kernel
theorem dX13_feed_6 : decode cX13_feed 6 = .ok (.iadd, 1) := by decide +kernel
theorem dX13_feed_7 : decode cX13_feed 7 = .ok (.sipush 300, 3) := by decide +kernel
theorem dX13_feed_10 : decode cX13_feed 10 = .ok (.if_icmp .le 5, 3) := by decide +kernel
theorem dX13_feed_13 : decode cX13_feed 13 = .ok (.iconst (-1), 1) := by decide +kernel
theorem dX13_feed_14 : decode cX13_feed 14 = .ok (.ireturn, 1) := by decide +kernel
theorem dX13_feed_15 : decode cX13_feed 15 = .ok (.aload_n 0, 1) := by decide +kernel
theorem dX13_feed_16 : decode cX13_feed 16 = .ok (.iload_n 1, 1) := by decide +kernel
theorem dX13_feed_17 : decode cX13_feed 17 = .ok (.invokevirtual 90, 3) := by decide +kernel
theorem dX13_feed_20 : decode cX13_feed 20 = .ok (.aload_n 0, 1) := by decide +kernel
theorem dX13_feed_21 : decode cX13_feed 21 = .ok (.iload_n 2, 1) := by decide +kernel
theorem dX13_feed_22 : decode cX13_feed 22 = .ok (.invokevirtual 90, 3) := by decide +kernel
theorem dX13_feed_25 : decode cX13_feed 25 = .ok (.aload_n 0, 1) := by decide +kernel
theorem dX13_feed_26 : decode cX13_feed 26 = .ok (.iload_n 3, 1) := by decide +kernel
theorem dX13_feed_27 : decode cX13_feed 27 = .ok (.invokevirtual 90, 3) := by decide +kernel
theorem dX13_feed_30 : decode cX13_feed 30 = .ok (.aload_n 0, 1) := by decide +kernel
theorem dX13_feed_31 : decode cX13_feed 31 = .ok (.iload 4, 2) := by decide +kernel
theorem dX13_feed_33 : decode cX13_feed 33 = .ok (.invokevirtual 90, 3) := by decide +kernel
theorem dX13_feed_36 : decode cX13_feed 36 = .ok (.aload_n 0, 1) := by decide +kernel
theorem dX13_feed_37 : decode cX13_feed 37 = .ok (.iload 5, 2) := by decide +kernel
theorem dX13_feed_39 : decode cX13_feed 39 = .ok (.invokevirtual 90, 3) := by decide +kernel
theorem dX13_feed_42 : decode cX13_feed 42 = .ok (.aload_n 0, 1) := by decide +kernel
theorem dX13_feed_43 : decode cX13_feed 43 = .ok (.getfield 87, 3) := by decide +kernel
theorem dX13_feed_46 : decode cX13_feed 46 = .ok (.ireturn, 1) := by decide +kernel
theorem BX13_feed_0 {d bc bs : Nat} {h : aH} {n : Nat} {Q : aQ} {ar0 : Nat} {x1 x2 x3 x4 x5 v3 : Int} {f1 : List aV} (h2 : h ar0 = cO 13 f1) (g4 : f1[4]? = some (vI v3)) (b5 : -2147483648 ≤ v3 + 20 ∧ v3 + 20 < 2147483648) (kt : (v3 + 20) ≤ 300 → Rn d bc bs mX13_feed 15 [some (vR (some ar0)), some (vI x1), some (vI x2), some (vI x3), some (vI x4), some (vI x5)] [] h n Q) (kf : 300 < (v3 + 20) → Rn d bc bs mX13_feed 13 [some (vR (some ar0)), some (vI x1), some (vI x2), some (vI x3), some (vI x4), some (vI x5)] [] h n Q) : Rn d (bc) (bs) mX13_feed 0 [some (vR (some ar0)), some (vI x1), some (vI x2), some (vI x3), some (vI x4), some (vI x5)] [] h n Q := by
  refine Rn_aload_n dX13_feed_0 rfl rfl rfl ?_
  refine Rn_getfield (ci := 13) (k := 4) dX13_feed_1 rfl in_13 (Nat.le_of_ble_eq_true rfl) wd_1356 rfl h2 g4 ?_
  refine Rn_bipush dX13_feed_4 rfl ?_
  refine Rn_iadd dX13_feed_6 ?_
  rw [w32_id b5.1 b5.2]
  refine Rn_sipush dX13_feed_7 rfl ?_
  refine Rn_icmple (tgt := 15) dX13_feed_10 rfl ?_ ?_
  · exact kt
  · exact kf
theorem BX13_feed_13 {d bc bs : Nat} {h : aH} {n : Nat} {Q : aQ} {r0 : Option Nat} {x1 x2 x3 x4 x5 : Int} (k : Q (some (vI (-1))) h n) : Rn d (bc) (bs) mX13_feed 13 [some (vR r0), some (vI x1), some (vI x2), some (vI x3), some (vI x4), some (vI x5)] [] h n Q := by
  refine Rn_iconst dX13_feed_13 rfl ?_
  exact Rn_ireturn rfl dX13_feed_14 k
theorem BX13_feed_15 {d bc bs : Nat} {h : aH} {n : Nat} {Q : aQ} {ar0 : Nat} {x1 x2 x3 x4 x5 : Int} {f1 : List aV} (h2 : h ar0 = cO 13 f1) (k : Rn d 0 0 mX13_four 0 [some (vR (some ar0)), some (vI x1), none] [] h n (fun v h1 n1 => Rn (d + 1) bc bs mX13_feed 20 [some (vR (some ar0)), some (vI x1), some (vI x2), some (vI x3), some (vI x4), some (vI x5)] (v.toList ++ []) h1 n1 Q)) : Rn (d + 1) (bc) (bs) mX13_feed 15 [some (vR (some ar0)), some (vI x1), some (vI x2), some (vI x3), some (vI x4), some (vI x5)] [] h n Q := by
  refine Rn_aload_n dX13_feed_15 rfl rfl rfl ?_
  refine Rn_iload_n dX13_feed_16 rfl rfl ?_
  exact Rn_callV (ci := 13) (avs := [vI x1]) (st := []) (bc1 := 0) (bs1 := 0) (bc2 := bc) (bs2 := bs) fx_X13_four dX13_feed_17 wd_1474 wd_1476 wd_45 rfl h2 rfl (Nat.le_of_ble_eq_true rfl) (Nat.le_of_ble_eq_true rfl) (by omega) (by omega) (ls1 := [some (vR (some ar0)), some (vI x1), none]) rfl k
theorem BX13_feed_20 {d bc bs : Nat} {h : aH} {n : Nat} {Q : aQ} {ar0 : Nat} {x1 x2 x3 x4 x5 : Int} {f1 : List aV} (h2 : h ar0 = cO 13 f1) (k : Rn d 0 0 mX13_four 0 [some (vR (some ar0)), some (vI x2), none] [] h n (fun v h1 n1 => Rn (d + 1) bc bs mX13_feed 25 [some (vR (some ar0)), some (vI x1), some (vI x2), some (vI x3), some (vI x4), some (vI x5)] (v.toList ++ []) h1 n1 Q)) : Rn (d + 1) (bc) (bs) mX13_feed 20 [some (vR (some ar0)), some (vI x1), some (vI x2), some (vI x3), some (vI x4), some (vI x5)] [] h n Q := by
  refine Rn_aload_n dX13_feed_20 rfl rfl rfl ?_
  refine Rn_iload_n dX13_feed_21 rfl rfl ?_
  exact Rn_callV (ci := 13) (avs := [vI x2]) (st := []) (bc1 := 0) (bs1 := 0) (bc2 := bc) (bs2 := bs) fx_X13_four dX13_feed_22 wd_1474 wd_1476 wd_45 rfl h2 rfl (Nat.le_of_ble_eq_true rfl) (Nat.le_of_ble_eq_true rfl) (by omega) (by omega) (ls1 := [some (vR (some ar0)), some (vI x2), none]) rfl k
theorem BX13_feed_25 {d bc bs : Nat} {h : aH} {n : Nat} {Q : aQ} {ar0 : Nat} {x1 x2 x3 x4 x5 : Int} {f1 : List aV} (h2 : h ar0 = cO 13 f1) (k : Rn d 0 0 mX13_four 0 [some (vR (some ar0)), some (vI x3), none] [] h n (fun v h1 n1 => Rn (d + 1) bc bs mX13_feed 30 [some (vR (some ar0)), some (vI x1), some (vI x2), some (vI x3), some (vI x4), some (vI x5)] (v.toList ++ []) h1 n1 Q)) : Rn (d + 1) (bc) (bs) mX13_feed 25 [some (vR (some ar0)), some (vI x1), some (vI x2), some (vI x3), some (vI x4), some (vI x5)] [] h n Q := by
  refine Rn_aload_n dX13_feed_25 rfl rfl rfl ?_
  refine Rn_iload_n dX13_feed_26 rfl rfl ?_
  exact Rn_callV (ci := 13) (avs := [vI x3]) (st := []) (bc1 := 0) (bs1 := 0) (bc2 := bc) (bs2 := bs) fx_X13_four dX13_feed_27 wd_1474 wd_1476 wd_45 rfl h2 rfl (Nat.le_of_ble_eq_true rfl) (Nat.le_of_ble_eq_true rfl) (by omega) (by omega) (ls1 := [some (vR (some ar0)), some (vI x3), none]) rfl k
theorem BX13_feed_30 {d bc bs : Nat} {h : aH} {n : Nat} {Q : aQ} {ar0 : Nat} {x1 x2 x3 x4 x5 : Int} {f1 : List aV} (h2 : h ar0 = cO 13 f1) (k : Rn d 0 0 mX13_four 0 [some (vR (some ar0)), some (vI x4), none] [] h n (fun v h1 n1 => Rn (d + 1) bc bs mX13_feed 36 [some (vR (some ar0)), some (vI x1), some (vI x2), some (vI x3), some (vI x4), some (vI x5)] (v.toList ++ []) h1 n1 Q)) : Rn (d + 1) (bc) (bs) mX13_feed 30 [some (vR (some ar0)), some (vI x1), some (vI x2), some (vI x3), some (vI x4), some (vI x5)] [] h n Q := by
  refine Rn_aload_n dX13_feed_30 rfl rfl rfl ?_
  refine Rn_iload dX13_feed_31 rfl ?_
  exact Rn_callV (ci := 13) (avs := [vI x4]) (st := []) (bc1 := 0) (bs1 := 0) (bc2 := bc) (bs2 := bs) fx_X13_four dX13_feed_33 wd_1474 wd_1476 wd_45 rfl h2 rfl (Nat.le_of_ble_eq_true rfl) (Nat.le_of_ble_eq_true rfl) (by omega) (by omega) (ls1 := [some (vR (some ar0)), some (vI x4), none]) rfl k
theorem BX13_feed_36 {d bc bs : Nat} {h : aH} {n : Nat} {Q : aQ} {ar0 : Nat} {x1 x2 x3 x4 x5 : Int} {f1 : List aV} (h2 : h ar0 = cO 13 f1) (k : Rn d 0 0 mX13_four 0 [some (vR (some ar0)), some (vI x5), none] [] h n (fun v h1 n1 => Rn (d + 1) bc bs mX13_feed 42 [some (vR (some ar0)), some (vI x1), some (vI x2), some (vI x3), some (vI x4), some (vI x5)] (v.toList ++ []) h1 n1 Q)) : Rn (d + 1) (bc) (bs) mX13_feed 36 [some (vR (some ar0)), some (vI x1), some (vI x2), some (vI x3), some (vI x4), some (vI x5)] [] h n Q := by
  refine Rn_aload_n dX13_feed_36 rfl rfl rfl ?_
  refine Rn_iload dX13_feed_37 rfl ?_
  exact Rn_callV (ci := 13) (avs := [vI x5]) (st := []) (bc1 := 0) (bs1 := 0) (bc2 := bc) (bs2 := bs) fx_X13_four dX13_feed_39 wd_1474 wd_1476 wd_45 rfl h2 rfl (Nat.le_of_ble_eq_true rfl) (Nat.le_of_ble_eq_true rfl) (by omega) (by omega) (ls1 := [some (vR (some ar0)), some (vI x5), none]) rfl k
theorem BX13_feed_42 {d bc bs : Nat} {h : aH} {n : Nat} {Q : aQ} {ar0 : Nat} {x1 x2 x3 x4 x5 v3 : Int} {f1 : List aV} (h2 : h ar0 = cO 13 f1) (g4 : f1[4]? = some (vI v3)) (k : Q (some (vI v3)) h n) : Rn d (bc) (bs) mX13_feed 42 [some (vR (some ar0)), some (vI x1), some (vI x2), some (vI x3), some (vI x4), some (vI x5)] [] h n Q := by
  refine Rn_aload_n dX13_feed_42 rfl rfl rfl ?_
  refine Rn_getfield (ci := 13) (k := 4) dX13_feed_43 rfl in_13 (Nat.le_of_ble_eq_true rfl) wd_1356 rfl h2 g4 ?_
  exact Rn_ireturn rfl dX13_feed_46 k
theorem dX13_end_0 : decode cX13_end 0 = .ok (.iload_n 1, 1) := by decide +kernel
theorem dX13_end_1 : decode cX13_end 1 = .ok (.iconst 0, 1) := by decide +kernel
theorem dX13_end_2 : decode cX13_end 2 = .ok (.aload_n 0, 1) := by decide +kernel
theorem dX13_end_3 : decode cX13_end 3 = .ok (.getfield 87, 3) := by decide +kernel
theorem dX13_end_6 : decode cX13_end 6 = .ok (.invokestatic 72, 3) := by decide +kernel
theorem dX13_end_9 : decode cX13_end 9 = .ok (.ifCond .ne 5, 3) := by decide +kernel
theorem dX13_end_12 : decode cX13_end 12 = .ok (.iconst (-1), 1) := by decide +kernel
theorem dX13_end_13 : decode cX13_end 13 = .ok (.ireturn, 1) := by decide +kernel
theorem dX13_end_14 : decode cX13_end 14 = .ok (.aload_n 0, 1) := by decide +kernel
theorem dX13_end_15 : decode cX13_end 15 = .ok (.iload_n 1, 1) := by decide +kernel
theorem dX13_end_16 : decode cX13_end 16 = .ok (.putfield 87, 3) := by decide +kernel
theorem dX13_end_19 : decode cX13_end 19 = .ok (.iload_n 1, 1) := by decide +kernel
theorem dX13_end_20 : decode cX13_end 20 = .ok (.ireturn, 1) := by decide +kernel
theorem BX13_end_0 {d bc bs : Nat} {h : aH} {n : Nat} {Q : aQ} {ar0 : Nat} {x1 v3 : Int} {f1 : List aV} (h2 : h ar0 = cO 13 f1) (g4 : f1[4]? = some (vI v3)) (k : Rn d 0 0 mX13_isIn 0 [some (vI x1), some (vI 0), some (vI v3)] [] h n (fun v h1 n1 => Rn (d + 1) bc bs mX13_end 9 [some (vR (some ar0)), some (vI x1)] (v.toList ++ []) h1 n1 Q)) : Rn (d + 1) (bc) (bs) mX13_end 0 [some (vR (some ar0)), some (vI x1)] [] h n Q := by
  refine Rn_iload_n dX13_end_0 rfl rfl ?_
  refine Rn_iconst dX13_end_1 rfl ?_
  refine Rn_aload_n dX13_end_2 rfl rfl rfl ?_
  refine Rn_getfield (ci := 13) (k := 4) dX13_end_3 rfl in_13 (Nat.le_of_ble_eq_true rfl) wd_1356 rfl h2 g4 ?_
  exact Rn_callS (avs := [vI x1, vI 0, vI v3]) (st := []) (bc1 := 0) (bs1 := 0) (bc2 := bc) (bs2 := bs) fx_X13_isIn dX13_end_6 (Or.inl wd_1463) wd_1464 rfl (Nat.le_of_ble_eq_true rfl) (Nat.le_of_ble_eq_true rfl) (by omega) (by omega) (ls1 := [some (vI x1), some (vI 0), some (vI v3)]) rfl k
theorem BX13_end_9 {d bc bs : Nat} {h : aH} {n : Nat} {Q : aQ} {r0 : Option Nat} {x1 s0 : Int} (kt : s0 ≠ 0 → Rn d bc bs mX13_end 14 [some (vR r0), some (vI x1)] [] h n Q) (kf : s0 = 0 → Rn d bc bs mX13_end 12 [some (vR r0), some (vI x1)] [] h n Q) : Rn d (bc) (bs) mX13_end 9 [some (vR r0), some (vI x1)] [vI s0] h n Q := by
  refine Rn_ifne (tgt := 14) dX13_end_9 rfl ?_ ?_
  · exact kt
  · exact kf
theorem BX13_end_12 {d bc bs : Nat} {h : aH} {n : Nat} {Q : aQ} {r0 : Option Nat} {x1 : Int} (k : Q (some (vI (-1))) h n) : Rn d (bc) (bs) mX13_end 12 [some (vR r0), some (vI x1)] [] h n Q := by
  refine Rn_iconst dX13_end_12 rfl ?_
  exact Rn_ireturn rfl dX13_end_13 k
theorem BX13_end_14 {d bc bs : Nat} {h : aH} {n : Nat} {Q : aQ} {ar0 : Nat} {x1 : Int} {f1 : List aV} (h2 : h ar0 = cO 13 f1) (m3 : 4 < f1.length) (k : Rn d bc bs mX13_end 19 [some (vR (some ar0)), some (vI x1)] [] (up h ar0 (cO 13 (f1.set 4 (vI x1)))) n Q) : Rn d (bc) (bs) mX13_end 14 [some (vR (some ar0)), some (vI x1)] [] h n Q := by
  refine Rn_aload_n dX13_end_14 rfl rfl rfl ?_
  refine Rn_iload_n dX13_end_15 rfl rfl ?_
  refine Rn_putfield (ci := 13) (k := 4) dX13_end_16 rfl in_13 tyX13_ok nmX13 (Nat.le_of_ble_eq_true rfl) wd_1356 rfl (Or.inl rfl) trivial m3 h2 ?_
  exact k
theorem BX13_end_19 {d bc bs : Nat} {h : aH} {n : Nat} {Q : aQ} {r0 : Option Nat} {x1 : Int} (k : Q (some (vI x1)) h n) : Rn d (bc) (bs) mX13_end 19 [some (vR r0), some (vI x1)] [] h n Q := by
  refine Rn_iload_n dX13_end_19 rfl rfl ?_
  exact Rn_ireturn rfl dX13_end_20 k
theorem dX13_byteAt_0 : decode cX13_byteAt 0 = .ok (.iload_n 1, 1) := by decide +kernel
theorem dX13_byteAt_1 : decode cX13_byteAt 1 = .ok (.aload_n 0, 1) := by decide +kernel
theorem dX13_byteAt_2 : decode cX13_byteAt 2 = .ok (.getfield 87, 3) := by decide +kernel
theorem dX13_byteAt_5 : decode cX13_byteAt 5 = .ok (.if_icmp .ge 12, 3) := by decide +kernel
theorem dX13_byteAt_8 : decode cX13_byteAt 8 = .ok (.aload_n 0, 1) := by decide +kernel
theorem dX13_byteAt_9 : decode cX13_byteAt 9 = .ok (.getfield 19, 3) := by decide +kernel
theorem dX13_byteAt_12 : decode cX13_byteAt 12 = .ok (.iload_n 1, 1) := by decide +kernel
theorem dX13_byteAt_13 : decode cX13_byteAt 13 = .ok (.iaload, 1) := by decide +kernel
theorem dX13_byteAt_14 : decode cX13_byteAt 14 = .ok (.goto 4, 3) := by decide +kernel
theorem dX13_byteAt_17 : decode cX13_byteAt 17 = .ok (.iconst (-1), 1) := by decide +kernel
theorem dX13_byteAt_18 : decode cX13_byteAt 18 = .ok (.ireturn, 1) := by decide +kernel
theorem BX13_byteAt_0 {d bc bs : Nat} {h : aH} {n : Nat} {Q : aQ} {ar0 : Nat} {x1 v3 : Int} {f1 : List aV} (h2 : h ar0 = cO 13 f1) (g4 : f1[4]? = some (vI v3)) (kt : v3 ≤ x1 → Rn d bc bs mX13_byteAt 17 [some (vR (some ar0)), some (vI x1)] [] h n Q) (kf : x1 < v3 → Rn d bc bs mX13_byteAt 8 [some (vR (some ar0)), some (vI x1)] [] h n Q) : Rn d (bc) (bs) mX13_byteAt 0 [some (vR (some ar0)), some (vI x1)] [] h n Q := by
  refine Rn_iload_n dX13_byteAt_0 rfl rfl ?_
  refine Rn_aload_n dX13_byteAt_1 rfl rfl rfl ?_
  refine Rn_getfield (ci := 13) (k := 4) dX13_byteAt_2 rfl in_13 (Nat.le_of_ble_eq_true rfl) wd_1356 rfl h2 g4 ?_
  refine Rn_icmpge (tgt := 17) dX13_byteAt_5 rfl ?_ ?_
  · exact kt
  · exact kf
theorem BX13_byteAt_8 {d bc bs : Nat} {h : aH} {n : Nat} {Q : aQ} {ar0 at3 : Nat} {x1 v7 : Int} {f1 : List aV} {w5 : List Int} (h2 : h ar0 = cO 13 f1) (g4 : f1[3]? = some (vR (some at3))) (h6 : h at3 = cI w5) (i8 : 0 ≤ x1) (g9 : w5[(x1 : Int).toNat]? = some v7) (k : Q (some (vI v7)) h n) : Rn d (bc) (bs) mX13_byteAt 8 [some (vR (some ar0)), some (vI x1)] [] h n Q := by
  refine Rn_aload_n dX13_byteAt_8 rfl rfl rfl ?_
  refine Rn_getfield (ci := 13) (k := 3) dX13_byteAt_9 rfl in_13 (Nat.le_of_ble_eq_true rfl) wd_1355 rfl h2 g4 ?_
  refine Rn_iload_n dX13_byteAt_12 rfl rfl ?_
  refine Rn_iaload dX13_byteAt_13 h6 i8 g9 ?_
  refine Rn_goto (tgt := 18) dX13_byteAt_14 rfl ?_
  exact Rn_ireturn rfl dX13_byteAt_18 k
theorem BX13_byteAt_17 {d bc bs : Nat} {h : aH} {n : Nat} {Q : aQ} {r0 : Option Nat} {x1 : Int} (k : Q (some (vI (-1))) h n) : Rn d (bc) (bs) mX13_byteAt 17 [some (vR r0), some (vI x1)] [] h n Q := by
  refine Rn_iconst dX13_byteAt_17 rfl ?_
  exact Rn_ireturn rfl dX13_byteAt_18 k
theorem dX13_isLetterByte_0 : decode cX13_isLetterByte 0 = .ok (.iload_n 0, 1) := by decide +kernel
theorem dX13_isLetterByte_1 : decode cX13_isLetterByte 1 = .ok (.bipush 97, 2) := by decide +kernel
theorem dX13_isLetterByte_3 : decode cX13_isLetterByte 3 = .ok (.if_icmp .lt 9, 3) := by decide +kernel
theorem dX13_isLetterByte_6 : decode cX13_isLetterByte 6 = .ok (.iload_n 0, 1) := by decide +kernel
theorem dX13_isLetterByte_7 : decode cX13_isLetterByte 7 = .ok (.bipush 122, 2) := by decide +kernel
theorem dX13_isLetterByte_9 : decode cX13_isLetterByte 9 = .ok (.if_icmp .le 15, 3) := by decide +kernel
theorem dX13_isLetterByte_12 : decode cX13_isLetterByte 12 = .ok (.iload_n 0, 1) := by decide +kernel
theorem dX13_isLetterByte_13 : decode cX13_isLetterByte 13 = .ok (.bipush 65, 2) := by decide +kernel
theorem dX13_isLetterByte_15 : decode cX13_isLetterByte 15 = .ok (.if_icmp .lt 13, 3) := by decide +kernel
theorem dX13_isLetterByte_18 : decode cX13_isLetterByte 18 = .ok (.iload_n 0, 1) := by decide +kernel
theorem dX13_isLetterByte_19 : decode cX13_isLetterByte 19 = .ok (.bipush 90, 2) := by decide +kernel
theorem dX13_isLetterByte_21 : decode cX13_isLetterByte 21 = .ok (.if_icmp .gt 7, 3) := by decide +kernel
theorem dX13_isLetterByte_24 : decode cX13_isLetterByte 24 = .ok (.iconst 1, 1) := by decide +kernel
theorem dX13_isLetterByte_25 : decode cX13_isLetterByte 25 = .ok (.goto 4, 3) := by decide +kernel
theorem dX13_isLetterByte_28 : decode cX13_isLetterByte 28 = .ok (.iconst 0, 1) := by decide +kernel
theorem dX13_isLetterByte_29 : decode cX13_isLetterByte 29 = .ok (.ireturn, 1) := by decide +kernel
theorem BX13_isLetterByte_0 {d bc bs : Nat} {h : aH} {n : Nat} {Q : aQ} {x0 : Int} (kt : x0 < 97 → Rn d bc bs mX13_isLetterByte 12 [some (vI x0)] [] h n Q) (kf : 97 ≤ x0 → Rn d bc bs mX13_isLetterByte 6 [some (vI x0)] [] h n Q) : Rn d (bc) (bs) mX13_isLetterByte 0 [some (vI x0)] [] h n Q := by
  refine Rn_iload_n dX13_isLetterByte_0 rfl rfl ?_
  refine Rn_bipush dX13_isLetterByte_1 rfl ?_
  refine Rn_icmplt (tgt := 12) dX13_isLetterByte_3 rfl ?_ ?_
  · exact kt
  · exact kf
theorem BX13_isLetterByte_6 {d bc bs : Nat} {h : aH} {n : Nat} {Q : aQ} {x0 : Int} (kt : x0 ≤ 122 → Rn d bc bs mX13_isLetterByte 24 [some (vI x0)] [] h n Q) (kf : 122 < x0 → Rn d bc bs mX13_isLetterByte 12 [some (vI x0)] [] h n Q) : Rn d (bc) (bs) mX13_isLetterByte 6 [some (vI x0)] [] h n Q := by
  refine Rn_iload_n dX13_isLetterByte_6 rfl rfl ?_
  refine Rn_bipush dX13_isLetterByte_7 rfl ?_
  refine Rn_icmple (tgt := 24) dX13_isLetterByte_9 rfl ?_ ?_
  · exact kt
  · exact kf
theorem BX13_isLetterByte_12 {d bc bs : Nat} {h : aH} {n : Nat} {Q : aQ} {x0 : Int} (kt : x0 < 65 → Rn d bc bs mX13_isLetterByte 28 [some (vI x0)] [] h n Q) (kf : 65 ≤ x0 → Rn d bc bs mX13_isLetterByte 18 [some (vI x0)] [] h n Q) : Rn d (bc) (bs) mX13_isLetterByte 12 [some (vI x0)] [] h n Q := by
  refine Rn_iload_n dX13_isLetterByte_12 rfl rfl ?_
  refine Rn_bipush dX13_isLetterByte_13 rfl ?_
  refine Rn_icmplt (tgt := 28) dX13_isLetterByte_15 rfl ?_ ?_
  · exact kt
  · exact kf
theorem BX13_isLetterByte_18 {d bc bs : Nat} {h : aH} {n : Nat} {Q : aQ} {x0 : Int} (kt : 90 < x0 → Rn d bc bs mX13_isLetterByte 28 [some (vI x0)] [] h n Q) (kf : x0 ≤ 90 → Rn d bc bs mX13_isLetterByte 24 [some (vI x0)] [] h n Q) : Rn d (bc) (bs) mX13_isLetterByte 18 [some (vI x0)] [] h n Q := by
  refine Rn_iload_n dX13_isLetterByte_18 rfl rfl ?_
  refine Rn_bipush dX13_isLetterByte_19 rfl ?_
  refine Rn_icmpgt (tgt := 28) dX13_isLetterByte_21 rfl ?_ ?_
  · exact kt
  · exact kf
theorem BX13_isLetterByte_24 {d bc bs : Nat} {h : aH} {n : Nat} {Q : aQ} {x0 : Int} (k : Q (some (vI 1)) h n) : Rn d (bc) (bs) mX13_isLetterByte 24 [some (vI x0)] [] h n Q := by
  refine Rn_iconst dX13_isLetterByte_24 rfl ?_
  refine Rn_goto (tgt := 29) dX13_isLetterByte_25 rfl ?_
  exact Rn_zreturn rfl dX13_isLetterByte_29 (by decide) k
theorem BX13_isLetterByte_28 {d bc bs : Nat} {h : aH} {n : Nat} {Q : aQ} {x0 : Int} (k : Q (some (vI 0)) h n) : Rn d (bc) (bs) mX13_isLetterByte 28 [some (vI x0)] [] h n Q := by
  refine Rn_iconst dX13_isLetterByte_28 rfl ?_
  exact Rn_zreturn rfl dX13_isLetterByte_29 (by decide) k
theorem dX13_isFigure_0 : decode cX13_isFigure 0 = .ok (.iload_n 0, 1) := by decide +kernel
theorem dX13_isFigure_1 : decode cX13_isFigure 1 = .ok (.bipush 48, 2) := by decide +kernel
theorem dX13_isFigure_3 : decode cX13_isFigure 3 = .ok (.if_icmp .lt 13, 3) := by decide +kernel
theorem dX13_isFigure_6 : decode cX13_isFigure 6 = .ok (.iload_n 0, 1) := by decide +kernel
theorem dX13_isFigure_7 : decode cX13_isFigure 7 = .ok (.bipush 57, 2) := by decide +kernel
theorem dX13_isFigure_9 : decode cX13_isFigure 9 = .ok (.if_icmp .gt 7, 3) := by decide +kernel
theorem dX13_isFigure_12 : decode cX13_isFigure 12 = .ok (.iconst 1, 1) := by decide +kernel
theorem dX13_isFigure_13 : decode cX13_isFigure 13 = .ok (.goto 4, 3) := by decide +kernel
theorem dX13_isFigure_16 : decode cX13_isFigure 16 = .ok (.iconst 0, 1) := by decide +kernel
theorem dX13_isFigure_17 : decode cX13_isFigure 17 = .ok (.ireturn, 1) := by decide +kernel
theorem BX13_isFigure_0 {d bc bs : Nat} {h : aH} {n : Nat} {Q : aQ} {x0 : Int} (kt : x0 < 48 → Rn d bc bs mX13_isFigure 16 [some (vI x0)] [] h n Q) (kf : 48 ≤ x0 → Rn d bc bs mX13_isFigure 6 [some (vI x0)] [] h n Q) : Rn d (bc) (bs) mX13_isFigure 0 [some (vI x0)] [] h n Q := by
  refine Rn_iload_n dX13_isFigure_0 rfl rfl ?_
  refine Rn_bipush dX13_isFigure_1 rfl ?_
  refine Rn_icmplt (tgt := 16) dX13_isFigure_3 rfl ?_ ?_
  · exact kt
  · exact kf
theorem BX13_isFigure_6 {d bc bs : Nat} {h : aH} {n : Nat} {Q : aQ} {x0 : Int} (kt : 57 < x0 → Rn d bc bs mX13_isFigure 16 [some (vI x0)] [] h n Q) (kf : x0 ≤ 57 → Rn d bc bs mX13_isFigure 12 [some (vI x0)] [] h n Q) : Rn d (bc) (bs) mX13_isFigure 6 [some (vI x0)] [] h n Q := by
  refine Rn_iload_n dX13_isFigure_6 rfl rfl ?_
  refine Rn_bipush dX13_isFigure_7 rfl ?_
  refine Rn_icmpgt (tgt := 16) dX13_isFigure_9 rfl ?_ ?_
  · exact kt
  · exact kf
theorem BX13_isFigure_12 {d bc bs : Nat} {h : aH} {n : Nat} {Q : aQ} {x0 : Int} (k : Q (some (vI 1)) h n) : Rn d (bc) (bs) mX13_isFigure 12 [some (vI x0)] [] h n Q := by
  refine Rn_iconst dX13_isFigure_12 rfl ?_
  refine Rn_goto (tgt := 17) dX13_isFigure_13 rfl ?_
  exact Rn_zreturn rfl dX13_isFigure_17 (by decide) k
theorem BX13_isFigure_16 {d bc bs : Nat} {h : aH} {n : Nat} {Q : aQ} {x0 : Int} (k : Q (some (vI 0)) h n) : Rn d (bc) (bs) mX13_isFigure 16 [some (vI x0)] [] h n Q := by
  refine Rn_iconst dX13_isFigure_16 rfl ?_
  exact Rn_zreturn rfl dX13_isFigure_17 (by decide) k
theorem dX13_isSign_0 : decode cX13_isSign 0 = .ok (.iload_n 0, 1) := by decide +kernel
theorem dX13_isSign_1 : decode cX13_isSign 1 = .ok (.tableswitch 129 35 62 #[127, 129, 129, 129, 129, 127, 127, 127, 127, 129, 127, 129, 127, 129, 129, 129, 129, 129, 129, 129, 129, 129, 129, 127, 127, 127, 127, 127], 127) := by decide +kernel
theorem dX13_isSign_128 : decode cX13_isSign 128 = .ok (.iconst 1, 1) := by decide +kernel
theorem dX13_isSign_129 : decode cX13_isSign 129 = .ok (.ireturn, 1) := by decide +kernel
theorem dX13_isSign_130 : decode cX13_isSign 130 = .ok (.iconst 0, 1) := by decide +kernel
theorem dX13_isSign_131 : decode cX13_isSign 131 = .ok (.ireturn, 1) := by decide +kernel
theorem BX13_isSign_0 {d bc bs : Nat} {h : aH} {n : Nat} {Q : aQ} {x0 : Int} (kd : (x0 < 35 ∨ 62 < x0) → Rn d bc bs mX13_isSign 130 [some (vI x0)] [] h n Q) (k35 : x0 = 35 → Rn d bc bs mX13_isSign 128 [some (vI x0)] [] h n Q) (k36 : x0 = 36 → Rn d bc bs mX13_isSign 130 [some (vI x0)] [] h n Q) (k37 : x0 = 37 → Rn d bc bs mX13_isSign 130 [some (vI x0)] [] h n Q) (k38 : x0 = 38 → Rn d bc bs mX13_isSign 130 [some (vI x0)] [] h n Q) (k39 : x0 = 39 → Rn d bc bs mX13_isSign 130 [some (vI x0)] [] h n Q) (k40 : x0 = 40 → Rn d bc bs mX13_isSign 128 [some (vI x0)] [] h n Q) (k41 : x0 = 41 → Rn d bc bs mX13_isSign 128 [some (vI x0)] [] h n Q) (k42 : x0 = 42 → Rn d bc bs mX13_isSign 128 [some (vI x0)] [] h n Q) (k43 : x0 = 43 → Rn d bc bs mX13_isSign 128 [some (vI x0)] [] h n Q) (k44 : x0 = 44 → Rn d bc bs mX13_isSign 130 [some (vI x0)] [] h n Q) (k45 : x0 = 45 → Rn d bc bs mX13_isSign 128 [some (vI x0)] [] h n Q) (k46 : x0 = 46 → Rn d bc bs mX13_isSign 130 [some (vI x0)] [] h n Q) (k47 : x0 = 47 → Rn d bc bs mX13_isSign 128 [some (vI x0)] [] h n Q) (k48 : x0 = 48 → Rn d bc bs mX13_isSign 130 [some (vI x0)] [] h n Q) (k49 : x0 = 49 → Rn d bc bs mX13_isSign 130 [some (vI x0)] [] h n Q) (k50 : x0 = 50 → Rn d bc bs mX13_isSign 130 [some (vI x0)] [] h n Q) (k51 : x0 = 51 → Rn d bc bs mX13_isSign 130 [some (vI x0)] [] h n Q) (k52 : x0 = 52 → Rn d bc bs mX13_isSign 130 [some (vI x0)] [] h n Q) (k53 : x0 = 53 → Rn d bc bs mX13_isSign 130 [some (vI x0)] [] h n Q) (k54 : x0 = 54 → Rn d bc bs mX13_isSign 130 [some (vI x0)] [] h n Q) (k55 : x0 = 55 → Rn d bc bs mX13_isSign 130 [some (vI x0)] [] h n Q) (k56 : x0 = 56 → Rn d bc bs mX13_isSign 130 [some (vI x0)] [] h n Q) (k57 : x0 = 57 → Rn d bc bs mX13_isSign 130 [some (vI x0)] [] h n Q) (k58 : x0 = 58 → Rn d bc bs mX13_isSign 128 [some (vI x0)] [] h n Q) (k59 : x0 = 59 → Rn d bc bs mX13_isSign 128 [some (vI x0)] [] h n Q) (k60 : x0 = 60 → Rn d bc bs mX13_isSign 128 [some (vI x0)] [] h n Q) (k61 : x0 = 61 → Rn d bc bs mX13_isSign 128 [some (vI x0)] [] h n Q) (k62 : x0 = 62 → Rn d bc bs mX13_isSign 128 [some (vI x0)] [] h n Q) : Rn d (bc) (bs) mX13_isSign 0 [some (vI x0)] [] h n Q := by
  refine Rn_iload_n dX13_isSign_0 rfl rfl ?_
  by_cases hq : x0 < 35 ∨ 62 < x0
  · exact Rn_tableOut (tgt := 130) dX13_isSign_1 hq rfl (kd hq)
  rcases (show x0 = 35 ∨ x0 = 36 ∨ x0 = 37 ∨ x0 = 38 ∨ x0 = 39 ∨ x0 = 40 ∨ x0 = 41 ∨ x0 = 42 ∨ x0 = 43 ∨ x0 = 44 ∨ x0 = 45 ∨ x0 = 46 ∨ x0 = 47 ∨ x0 = 48 ∨ x0 = 49 ∨ x0 = 50 ∨ x0 = 51 ∨ x0 = 52 ∨ x0 = 53 ∨ x0 = 54 ∨ x0 = 55 ∨ x0 = 56 ∨ x0 = 57 ∨ x0 = 58 ∨ x0 = 59 ∨ x0 = 60 ∨ x0 = 61 ∨ x0 = 62 by omega) with hz | hz | hz | hz | hz | hz | hz | hz | hz | hz | hz | hz | hz | hz | hz | hz | hz | hz | hz | hz | hz | hz | hz | hz | hz | hz | hz | hz
  · exact Rn_tableIn (tgt := 128) dX13_isSign_1 (by omega) (by omega) (by rw [hz] <;> rfl) rfl (k35 hz)
  · exact Rn_tableIn (tgt := 130) dX13_isSign_1 (by omega) (by omega) (by rw [hz] <;> rfl) rfl (k36 hz)
  · exact Rn_tableIn (tgt := 130) dX13_isSign_1 (by omega) (by omega) (by rw [hz] <;> rfl) rfl (k37 hz)
  · exact Rn_tableIn (tgt := 130) dX13_isSign_1 (by omega) (by omega) (by rw [hz] <;> rfl) rfl (k38 hz)
  · exact Rn_tableIn (tgt := 130) dX13_isSign_1 (by omega) (by omega) (by rw [hz] <;> rfl) rfl (k39 hz)
  · exact Rn_tableIn (tgt := 128) dX13_isSign_1 (by omega) (by omega) (by rw [hz] <;> rfl) rfl (k40 hz)
  · exact Rn_tableIn (tgt := 128) dX13_isSign_1 (by omega) (by omega) (by rw [hz] <;> rfl) rfl (k41 hz)
  · exact Rn_tableIn (tgt := 128) dX13_isSign_1 (by omega) (by omega) (by rw [hz] <;> rfl) rfl (k42 hz)
  · exact Rn_tableIn (tgt := 128) dX13_isSign_1 (by omega) (by omega) (by rw [hz] <;> rfl) rfl (k43 hz)
  · exact Rn_tableIn (tgt := 130) dX13_isSign_1 (by omega) (by omega) (by rw [hz] <;> rfl) rfl (k44 hz)
  · exact Rn_tableIn (tgt := 128) dX13_isSign_1 (by omega) (by omega) (by rw [hz] <;> rfl) rfl (k45 hz)
  · exact Rn_tableIn (tgt := 130) dX13_isSign_1 (by omega) (by omega) (by rw [hz] <;> rfl) rfl (k46 hz)
  · exact Rn_tableIn (tgt := 128) dX13_isSign_1 (by omega) (by omega) (by rw [hz] <;> rfl) rfl (k47 hz)
  · exact Rn_tableIn (tgt := 130) dX13_isSign_1 (by omega) (by omega) (by rw [hz] <;> rfl) rfl (k48 hz)
  · exact Rn_tableIn (tgt := 130) dX13_isSign_1 (by omega) (by omega) (by rw [hz] <;> rfl) rfl (k49 hz)
  · exact Rn_tableIn (tgt := 130) dX13_isSign_1 (by omega) (by omega) (by rw [hz] <;> rfl) rfl (k50 hz)
  · exact Rn_tableIn (tgt := 130) dX13_isSign_1 (by omega) (by omega) (by rw [hz] <;> rfl) rfl (k51 hz)
  · exact Rn_tableIn (tgt := 130) dX13_isSign_1 (by omega) (by omega) (by rw [hz] <;> rfl) rfl (k52 hz)
  · exact Rn_tableIn (tgt := 130) dX13_isSign_1 (by omega) (by omega) (by rw [hz] <;> rfl) rfl (k53 hz)
  · exact Rn_tableIn (tgt := 130) dX13_isSign_1 (by omega) (by omega) (by rw [hz] <;> rfl) rfl (k54 hz)
  · exact Rn_tableIn (tgt := 130) dX13_isSign_1 (by omega) (by omega) (by rw [hz] <;> rfl) rfl (k55 hz)
  · exact Rn_tableIn (tgt := 130) dX13_isSign_1 (by omega) (by omega) (by rw [hz] <;> rfl) rfl (k56 hz)
  · exact Rn_tableIn (tgt := 130) dX13_isSign_1 (by omega) (by omega) (by rw [hz] <;> rfl) rfl (k57 hz)
  · exact Rn_tableIn (tgt := 128) dX13_isSign_1 (by omega) (by omega) (by rw [hz] <;> rfl) rfl (k58 hz)
  · exact Rn_tableIn (tgt := 128) dX13_isSign_1 (by omega) (by omega) (by rw [hz] <;> rfl) rfl (k59 hz)
  · exact Rn_tableIn (tgt := 128) dX13_isSign_1 (by omega) (by omega) (by rw [hz] <;> rfl) rfl (k60 hz)
  · exact Rn_tableIn (tgt := 128) dX13_isSign_1 (by omega) (by omega) (by rw [hz] <;> rfl) rfl (k61 hz)
  · exact Rn_tableIn (tgt := 128) dX13_isSign_1 (by omega) (by omega) (by rw [hz] <;> rfl) rfl (k62 hz)
theorem BX13_isSign_128 {d bc bs : Nat} {h : aH} {n : Nat} {Q : aQ} {x0 : Int} (k : Q (some (vI 1)) h n) : Rn d (bc) (bs) mX13_isSign 128 [some (vI x0)] [] h n Q := by
  refine Rn_iconst dX13_isSign_128 rfl ?_
  exact Rn_zreturn rfl dX13_isSign_129 (by decide) k
theorem BX13_isSign_130 {d bc bs : Nat} {h : aH} {n : Nat} {Q : aQ} {x0 : Int} (k : Q (some (vI 0)) h n) : Rn d (bc) (bs) mX13_isSign 130 [some (vI x0)] [] h n Q := by
  refine Rn_iconst dX13_isSign_130 rfl ?_
  exact Rn_zreturn rfl dX13_isSign_131 (by decide) k
theorem dX13_nextToken_0 : decode cX13_nextToken 0 = .ok (.aload_n 0, 1) := by decide +kernel
theorem dX13_nextToken_1 : decode cX13_nextToken 1 = .ok (.aload_n 0, 1) := by decide +kernel
theorem dX13_nextToken_2 : decode cX13_nextToken 2 = .ok (.getfield 94, 3) := by decide +kernel
theorem dX13_nextToken_5 : decode cX13_nextToken 5 = .ok (.invokevirtual 97, 3) := by decide +kernel
theorem dX13_nextToken_8 : decode cX13_nextToken 8 = .ok (.bipush 32, 2) := by decide +kernel
theorem dX13_nextToken_10 : decode cX13_nextToken 10 = .ok (.if_icmp .eq 16, 3) := by decide +kernel
theorem dX13_nextToken_13 : decode cX13_nextToken 13 = .ok (.aload_n 0, 1) := by decide +kernel
theorem dX13_nextToken_14 : decode cX13_nextToken 14 = .ok (.aload_n 0, 1) := by decide +kernel
theorem dX13_nextToken_15 : decode cX13_nextToken 15 = .ok (.getfield 94, 3) := by decide +kernel
theorem dX13_nextToken_18 : decode cX13_nextToken 18 = .ok (.invokevirtual 97, 3) := by decide +kernel
theorem dX13_nextToken_21 : decode cX13_nextToken 21 = .ok (.bipush 10, 2) := by decide +kernel
theorem dX13_nextToken_23 : decode cX13_nextToken 23 = .ok (.if_icmp .ne 16, 3) := by decide +kernel
theorem dX13_nextToken_26 : decode cX13_nextToken 26 = .ok (.aload_n 0, 1) := by decide +kernel
theorem dX13_nextToken_27 : decode cX13_nextToken 27 = .ok (.dup, 1) := by decide +kernel
theorem dX13_nextToken_28 : decode cX13_nextToken 28 = .ok (.getfield 94, 3) := by decide +kernel
theorem dX13_nextToken_31 : decode cX13_nextToken 31 = .ok (.iconst 1, 1) := by decide +kernel
theorem dX13_nextToken_32 : decode cX13_nextToken 32 = .ok (.iadd, 1) := by decide +kernel
theorem dX13_nextToken_33 : decode cX13_nextToken 33 = .ok (.putfield 94, 3) := by decide +kernel
theorem dX13_nextToken_36 : decode cX13_nextToken 36 = .ok (.goto (-36), 3) := by decide +kernel
theorem dX13_nextToken_39 : decode cX13_nextToken 39 = .ok (.aload_n 0, 1) := by decide +kernel
theorem dX13_nextToken_40 : decode cX13_nextToken 40 = .ok (.aload_n 0, 1) := by decide +kernel
theorem dX13_nextToken_41 : decode cX13_nextToken 41 = .ok (.getfield 94, 3) := by decide +kernel
theorem dX13_nextToken_44 : decode cX13_nextToken 44 = .ok (.putfield 101, 3) := by decide +kernel
theorem dX13_nextToken_47 : decode cX13_nextToken 47 = .ok (.aload_n 0, 1) := by decide +kernel
theorem dX13_nextToken_48 : decode cX13_nextToken 48 = .ok (.aload_n 0, 1) := by decide +kernel
theorem dX13_nextToken_49 : decode cX13_nextToken 49 = .ok (.getfield 94, 3) := by decide +kernel
theorem dX13_nextToken_52 : decode cX13_nextToken 52 = .ok (.invokevirtual 97, 3) := by decide +kernel
theorem dX13_nextToken_55 : decode cX13_nextToken 55 = .ok (.istore_n 1, 1) := by decide +kernel
theorem dX13_nextToken_56 : decode cX13_nextToken 56 = .ok (.iload_n 1, 1) := by decide +kernel
theorem dX13_nextToken_57 : decode cX13_nextToken 57 = .ok (.ifCond .ge 11, 3) := by decide +kernel
theorem dX13_nextToken_60 : decode cX13_nextToken 60 = .ok (.aload_n 0, 1) := by decide +kernel
theorem dX13_nextToken_61 : decode cX13_nextToken 61 = .ok (.iconst 0, 1) := by decide +kernel
theorem dX13_nextToken_62 : decode cX13_nextToken 62 = .ok (.putfield 104, 3) := by decide +kernel
theorem dX13_nextToken_65 : decode cX13_nextToken 65 = .ok (.goto 245, 3) := by decide +kernel
theorem dX13_nextToken_68 : decode cX13_nextToken 68 = .ok (.iload_n 1, 1) := by decide +kernel
theorem dX13_nextToken_69 : decode cX13_nextToken 69 = .ok (.invokestatic 107, 3) := by decide +kernel
theorem dX13_nextToken_72 : decode cX13_nextToken 72 = .ok (.ifCond .eq 79, 3) := by decide +kernel
theorem dX13_nextToken_75 : decode cX13_nextToken 75 = .ok (.aload_n 0, 1) := by decide +kernel
theorem dX13_nextToken_76 : decode cX13_nextToken 76 = .ok (.iconst 1, 1) := by decide +kernel
theorem dX13_nextToken_77 : decode cX13_nextToken 77 = .ok (.putfield 104, 3) := by decide +kernel
theorem dX13_nextToken_80 : decode cX13_nextToken 80 = .ok (.aload_n 0, 1) := by decide +kernel
theorem dX13_nextToken_81 : decode cX13_nextToken 81 = .ok (.iconst 0, 1) := by decide +kernel
theorem dX13_nextToken_82 : decode cX13_nextToken 82 = .ok (.putfield 110, 3) := by decide +kernel
theorem dX13_nextToken_85 : decode cX13_nextToken 85 = .ok (.aload_n 0, 1) := by decide +kernel
theorem dX13_nextToken_86 : decode cX13_nextToken 86 = .ok (.aload_n 0, 1) := by decide +kernel
theorem dX13_nextToken_87 : decode cX13_nextToken 87 = .ok (.getfield 94, 3) := by decide +kernel
theorem dX13_nextToken_90 : decode cX13_nextToken 90 = .ok (.invokevirtual 97, 3) := by decide +kernel
theorem dX13_nextToken_93 : decode cX13_nextToken 93 = .ok (.invokestatic 107, 3) := by decide +kernel
theorem dX13_nextToken_96 : decode cX13_nextToken 96 = .ok (.ifCond .eq 214, 3) := by decide +kernel
theorem dX13_nextToken_99 : decode cX13_nextToken 99 = .ok (.aload_n 0, 1) := by decide +kernel
theorem dX13_nextToken_100 : decode cX13_nextToken 100 = .ok (.aload_n 0, 1) := by decide +kernel
theorem dX13_nextToken_101 : decode cX13_nextToken 101 = .ok (.getfield 110, 3) := by decide +kernel
theorem dX13_nextToken_104 : decode cX13_nextToken 104 = .ok (.ldc 113, 2) := by decide +kernel
theorem dX13_nextToken_106 : decode cX13_nextToken 106 = .ok (.if_icmp .le 10, 3) := by decide +kernel
theorem dX13_nextToken_109 : decode cX13_nextToken 109 = .ok (.aload_n 0, 1) := by decide +kernel
theorem dX13_nextToken_110 : decode cX13_nextToken 110 = .ok (.getfield 110, 3) := by decide +kernel
theorem dX13_nextToken_113 : decode cX13_nextToken 113 = .ok (.goto 22, 3) := by decide +kernel
theorem dX13_nextToken_116 : decode cX13_nextToken 116 = .ok (.bipush 10, 2) := by decide +kernel
theorem dX13_nextToken_118 : decode cX13_nextToken 118 = .ok (.aload_n 0, 1) := by decide +kernel
theorem dX13_nextToken_119 : decode cX13_nextToken 119 = .ok (.getfield 110, 3) := by decide +kernel
theorem dX13_nextToken_122 : decode cX13_nextToken 122 = .ok (.imul, 1) := by decide +kernel
theorem dX13_nextToken_123 : decode cX13_nextToken 123 = .ok (.aload_n 0, 1) := by decide +kernel
theorem dX13_nextToken_124 : decode cX13_nextToken 124 = .ok (.aload_n 0, 1) := by decide +kernel
theorem dX13_nextToken_125 : decode cX13_nextToken 125 = .ok (.getfield 94, 3) := by decide +kernel
theorem dX13_nextToken_128 : decode cX13_nextToken 128 = .ok (.invokevirtual 97, 3) := by decide +kernel
theorem dX13_nextToken_131 : decode cX13_nextToken 131 = .ok (.iadd, 1) := by decide +kernel
theorem dX13_nextToken_132 : decode cX13_nextToken 132 = .ok (.bipush 48, 2) := by decide +kernel
theorem dX13_nextToken_134 : decode cX13_nextToken 134 = .ok (.isub, 1) := by decide +kernel
theorem dX13_nextToken_135 : decode cX13_nextToken 135 = .ok (.putfield 110, 3) := by decide +kernel
theorem dX13_nextToken_138 : decode cX13_nextToken 138 = .ok (.aload_n 0, 1) := by decide +kernel
theorem dX13_nextToken_139 : decode cX13_nextToken 139 = .ok (.dup, 1) := by decide +kernel
theorem dX13_nextToken_140 : decode cX13_nextToken 140 = .ok (.getfield 94, 3) := by decide +kernel
theorem dX13_nextToken_143 : decode cX13_nextToken 143 = .ok (.iconst 1, 1) := by decide +kernel
theorem dX13_nextToken_144 : decode cX13_nextToken 144 = .ok (.iadd, 1) := by decide +kernel
theorem dX13_nextToken_145 : decode cX13_nextToken 145 = .ok (.putfield 94, 3) := by decide +kernel
theorem dX13_nextToken_148 : decode cX13_nextToken 148 = .ok (.goto (-63), 3) := by decide +kernel
theorem dX13_nextToken_151 : decode cX13_nextToken 151 = .ok (.iload_n 1, 1) := by decide +kernel
theorem dX13_nextToken_152 : decode cX13_nextToken 152 = .ok (.invokestatic 114, 3) := by decide +kernel
theorem dX13_nextToken_155 : decode cX13_nextToken 155 = .ok (.ifCond .eq 79, 3) := by decide +kernel
theorem dX13_nextToken_158 : decode cX13_nextToken 158 = .ok (.aload_n 0, 1) := by decide +kernel
theorem dX13_nextToken_159 : decode cX13_nextToken 159 = .ok (.iconst 2, 1) := by decide +kernel
theorem dX13_nextToken_160 : decode cX13_nextToken 160 = .ok (.putfield 104, 3) := by decide +kernel
theorem dX13_nextToken_163 : decode cX13_nextToken 163 = .ok (.aload_n 0, 1) := by decide +kernel
theorem dX13_nextToken_164 : decode cX13_nextToken 164 = .ok (.lconst 0, 1) := by decide +kernel
theorem dX13_nextToken_165 : decode cX13_nextToken 165 = .ok (.putfield 117, 3) := by decide +kernel
theorem dX13_nextToken_168 : decode cX13_nextToken 168 = .ok (.aload_n 0, 1) := by decide +kernel
theorem dX13_nextToken_169 : decode cX13_nextToken 169 = .ok (.aload_n 0, 1) := by decide +kernel
theorem dX13_nextToken_170 : decode cX13_nextToken 170 = .ok (.getfield 94, 3) := by decide +kernel
theorem dX13_nextToken_173 : decode cX13_nextToken 173 = .ok (.invokevirtual 97, 3) := by decide +kernel
theorem dX13_nextToken_176 : decode cX13_nextToken 176 = .ok (.invokestatic 114, 3) := by decide +kernel
theorem dX13_nextToken_179 : decode cX13_nextToken 179 = .ok (.ifCond .eq 131, 3) := by decide +kernel
theorem dX13_nextToken_182 : decode cX13_nextToken 182 = .ok (.aload_n 0, 1) := by decide +kernel
theorem dX13_nextToken_183 : decode cX13_nextToken 183 = .ok (.aload_n 0, 1) := by decide +kernel
theorem dX13_nextToken_184 : decode cX13_nextToken 184 = .ok (.getfield 117, 3) := by decide +kernel
theorem dX13_nextToken_187 : decode cX13_nextToken 187 = .ok (.bipush 48, 2) := by decide +kernel
theorem dX13_nextToken_189 : decode cX13_nextToken 189 = .ok (.lshr, 1) := by decide +kernel
theorem dX13_nextToken_190 : decode cX13_nextToken 190 = .ok (.lconst 0, 1) := by decide +kernel
theorem dX13_nextToken_191 : decode cX13_nextToken 191 = .ok (.lcmp, 1) := by decide +kernel
theorem dX13_nextToken_192 : decode cX13_nextToken 192 = .ok (.ifCond .eq 9, 3) := by decide +kernel
theorem dX13_nextToken_195 : decode cX13_nextToken 195 = .ok (.ldc2_w 121, 3) := by decide +kernel
theorem dX13_nextToken_198 : decode cX13_nextToken 198 = .ok (.goto 20, 3) := by decide +kernel
theorem dX13_nextToken_201 : decode cX13_nextToken 201 = .ok (.aload_n 0, 1) := by decide +kernel
theorem dX13_nextToken_202 : decode cX13_nextToken 202 = .ok (.getfield 117, 3) := by decide +kernel
theorem dX13_nextToken_205 : decode cX13_nextToken 205 = .ok (.bipush 8, 2) := by decide +kernel
theorem dX13_nextToken_207 : decode cX13_nextToken 207 = .ok (.lshl, 1) := by decide +kernel
theorem dX13_nextToken_208 : decode cX13_nextToken 208 = .ok (.aload_n 0, 1) := by decide +kernel
theorem dX13_nextToken_209 : decode cX13_nextToken 209 = .ok (.aload_n 0, 1) := by decide +kernel
theorem dX13_nextToken_210 : decode cX13_nextToken 210 = .ok (.getfield 94, 3) := by decide +kernel
theorem dX13_nextToken_213 : decode cX13_nextToken 213 = .ok (.invokevirtual 97, 3) := by decide +kernel
theorem dX13_nextToken_216 : decode cX13_nextToken 216 = .ok (.i2l, 1) := by decide +kernel
theorem dX13_nextToken_217 : decode cX13_nextToken 217 = .ok (.lor, 1) := by decide +kernel
theorem dX13_nextToken_218 : decode cX13_nextToken 218 = .ok (.putfield 117, 3) := by decide +kernel
theorem dX13_nextToken_221 : decode cX13_nextToken 221 = .ok (.aload_n 0, 1) := by decide +kernel
theorem dX13_nextToken_222 : decode cX13_nextToken 222 = .ok (.dup, 1) := by decide +kernel
theorem dX13_nextToken_223 : decode cX13_nextToken 223 = .ok (.getfield 94, 3) := by decide +kernel
theorem dX13_nextToken_226 : decode cX13_nextToken 226 = .ok (.iconst 1, 1) := by decide +kernel
theorem dX13_nextToken_227 : decode cX13_nextToken 227 = .ok (.iadd, 1) := by decide +kernel
theorem dX13_nextToken_228 : decode cX13_nextToken 228 = .ok (.putfield 94, 3) := by decide +kernel
theorem dX13_nextToken_231 : decode cX13_nextToken 231 = .ok (.goto (-63), 3) := by decide +kernel
theorem dX13_nextToken_234 : decode cX13_nextToken 234 = .ok (.aload_n 0, 1) := by decide +kernel
theorem dX13_nextToken_235 : decode cX13_nextToken 235 = .ok (.iload_n 1, 1) := by decide +kernel
theorem dX13_nextToken_236 : decode cX13_nextToken 236 = .ok (.invokestatic 123, 3) := by decide +kernel
theorem dX13_nextToken_239 : decode cX13_nextToken 239 = .ok (.ifCond .eq 7, 3) := by decide +kernel
theorem dX13_nextToken_242 : decode cX13_nextToken 242 = .ok (.iload_n 1, 1) := by decide +kernel
theorem dX13_nextToken_243 : decode cX13_nextToken 243 = .ok (.goto 4, 3) := by decide +kernel
theorem dX13_nextToken_246 : decode cX13_nextToken 246 = .ok (.iconst 3, 1) := by decide +kernel
theorem dX13_nextToken_247 : decode cX13_nextToken 247 = .ok (.putfield 104, 3) := by decide +kernel
theorem dX13_nextToken_250 : decode cX13_nextToken 250 = .ok (.aload_n 0, 1) := by decide +kernel
theorem dX13_nextToken_251 : decode cX13_nextToken 251 = .ok (.dup, 1) := by decide +kernel
theorem dX13_nextToken_252 : decode cX13_nextToken 252 = .ok (.getfield 94, 3) := by decide +kernel
theorem dX13_nextToken_255 : decode cX13_nextToken 255 = .ok (.iconst 1, 1) := by decide +kernel
theorem dX13_nextToken_256 : decode cX13_nextToken 256 = .ok (.iadd, 1) := by decide +kernel
theorem dX13_nextToken_257 : decode cX13_nextToken 257 = .ok (.putfield 94, 3) := by decide +kernel
theorem dX13_nextToken_260 : decode cX13_nextToken 260 = .ok (.iload_n 1, 1) := by decide +kernel
theorem dX13_nextToken_261 : decode cX13_nextToken 261 = .ok (.bipush 60, 2) := by decide +kernel
theorem dX13_nextToken_263 : decode cX13_nextToken 263 = .ok (.if_icmp .eq 9, 3) := by decide +kernel
theorem dX13_nextToken_266 : decode cX13_nextToken 266 = .ok (.iload_n 1, 1) := by decide +kernel
theorem dX13_nextToken_267 : decode cX13_nextToken 267 = .ok (.bipush 62, 2) := by decide +kernel
theorem dX13_nextToken_269 : decode cX13_nextToken 269 = .ok (.if_icmp .ne 41, 3) := by decide +kernel
theorem dX13_nextToken_272 : decode cX13_nextToken 272 = .ok (.aload_n 0, 1) := by decide +kernel
theorem dX13_nextToken_273 : decode cX13_nextToken 273 = .ok (.aload_n 0, 1) := by decide +kernel
theorem dX13_nextToken_274 : decode cX13_nextToken 274 = .ok (.getfield 94, 3) := by decide +kernel
theorem dX13_nextToken_277 : decode cX13_nextToken 277 = .ok (.invokevirtual 97, 3) := by decide +kernel
theorem dX13_nextToken_280 : decode cX13_nextToken 280 = .ok (.bipush 61, 2) := by decide +kernel
theorem dX13_nextToken_282 : decode cX13_nextToken 282 = .ok (.if_icmp .ne 28, 3) := by decide +kernel
theorem dX13_nextToken_285 : decode cX13_nextToken 285 = .ok (.aload_n 0, 1) := by decide +kernel
theorem dX13_nextToken_286 : decode cX13_nextToken 286 = .ok (.iload_n 1, 1) := by decide +kernel
theorem dX13_nextToken_287 : decode cX13_nextToken 287 = .ok (.bipush 60, 2) := by decide +kernel
theorem dX13_nextToken_289 : decode cX13_nextToken 289 = .ok (.if_icmp .ne 7, 3) := by decide +kernel
theorem dX13_nextToken_292 : decode cX13_nextToken 292 = .ok (.iconst 4, 1) := by decide +kernel
theorem dX13_nextToken_293 : decode cX13_nextToken 293 = .ok (.goto 4, 3) := by decide +kernel
theorem dX13_nextToken_296 : decode cX13_nextToken 296 = .ok (.iconst 5, 1) := by decide +kernel
theorem dX13_nextToken_297 : decode cX13_nextToken 297 = .ok (.putfield 104, 3) := by decide +kernel
theorem dX13_nextToken_300 : decode cX13_nextToken 300 = .ok (.aload_n 0, 1) := by decide +kernel
theorem dX13_nextToken_301 : decode cX13_nextToken 301 = .ok (.dup, 1) := by decide +kernel
theorem dX13_nextToken_302 : decode cX13_nextToken 302 = .ok (.getfield 94, 3) := by decide +kernel
theorem dX13_nextToken_305 : decode cX13_nextToken 305 = .ok (.iconst 1, 1) := by decide +kernel
theorem dX13_nextToken_306 : decode cX13_nextToken 306 = .ok (.iadd, 1) := by decide +kernel
theorem dX13_nextToken_307 : decode cX13_nextToken 307 = .ok (.putfield 94, 3) := by decide +kernel
theorem dX13_nextToken_310 : decode cX13_nextToken 310 = .ok (.return_, 1) := by decide +kernel
theorem BX13_nextToken_0 {d bc bs : Nat} {h : aH} {n : Nat} {Q : aQ} {ar0 : Nat} {l1 : Option aV} {f1 : List aV} {v3 : Int} (h2 : h ar0 = cO 13 f1) (g4 : f1[7]? = some (vI v3)) (k : Rn d 0 0 mX13_byteAt 0 [some (vR (some ar0)), some (vI v3)] [] h n (fun v h1 n1 => Rn (d + 1) bc bs mX13_nextToken 8 [some (vR (some ar0)), l1] (v.toList ++ []) h1 n1 Q)) : Rn (d + 1) (bc) (bs) mX13_nextToken 0 [some (vR (some ar0)), l1] [] h n Q := by
  refine Rn_aload_n dX13_nextToken_0 rfl rfl rfl ?_
  refine Rn_aload_n dX13_nextToken_1 rfl rfl rfl ?_
  refine Rn_getfield (ci := 13) (k := 7) dX13_nextToken_2 rfl in_13 (Nat.le_of_ble_eq_true rfl) wd_1359 rfl h2 g4 ?_
  exact Rn_callV (ci := 13) (avs := [vI v3]) (st := []) (bc1 := 0) (bs1 := 0) (bc2 := bc) (bs2 := bs) fx_X13_byteAt dX13_nextToken_5 wd_1494 wd_1496 wd_48 rfl h2 rfl (Nat.le_of_ble_eq_true rfl) (Nat.le_of_ble_eq_true rfl) (by omega) (by omega) (ls1 := [some (vR (some ar0)), some (vI v3)]) rfl k
theorem BX13_nextToken_8 {d bc bs : Nat} {h : aH} {n : Nat} {Q : aQ} {r0 : Option Nat} {l1 : Option aV} {s0 : Int} (kt : s0 = 32 → Rn d bc bs mX13_nextToken 26 [some (vR r0), l1] [] h n Q) (kf : s0 ≠ 32 → Rn d bc bs mX13_nextToken 13 [some (vR r0), l1] [] h n Q) : Rn d (bc) (bs) mX13_nextToken 8 [some (vR r0), l1] [vI s0] h n Q := by
  refine Rn_bipush dX13_nextToken_8 rfl ?_
  refine Rn_icmpeq (tgt := 26) dX13_nextToken_10 rfl ?_ ?_
  · exact kt
  · exact kf
theorem BX13_nextToken_13 {d bc bs : Nat} {h : aH} {n : Nat} {Q : aQ} {ar0 : Nat} {l1 : Option aV} {f1 : List aV} {v3 : Int} (h2 : h ar0 = cO 13 f1) (g4 : f1[7]? = some (vI v3)) (k : Rn d 0 0 mX13_byteAt 0 [some (vR (some ar0)), some (vI v3)] [] h n (fun v h1 n1 => Rn (d + 1) bc bs mX13_nextToken 21 [some (vR (some ar0)), l1] (v.toList ++ []) h1 n1 Q)) : Rn (d + 1) (bc) (bs) mX13_nextToken 13 [some (vR (some ar0)), l1] [] h n Q := by
  refine Rn_aload_n dX13_nextToken_13 rfl rfl rfl ?_
  refine Rn_aload_n dX13_nextToken_14 rfl rfl rfl ?_
  refine Rn_getfield (ci := 13) (k := 7) dX13_nextToken_15 rfl in_13 (Nat.le_of_ble_eq_true rfl) wd_1359 rfl h2 g4 ?_
  exact Rn_callV (ci := 13) (avs := [vI v3]) (st := []) (bc1 := 0) (bs1 := 0) (bc2 := bc) (bs2 := bs) fx_X13_byteAt dX13_nextToken_18 wd_1494 wd_1496 wd_48 rfl h2 rfl (Nat.le_of_ble_eq_true rfl) (Nat.le_of_ble_eq_true rfl) (by omega) (by omega) (ls1 := [some (vR (some ar0)), some (vI v3)]) rfl k
theorem BX13_nextToken_21 {d bc bs : Nat} {h : aH} {n : Nat} {Q : aQ} {r0 : Option Nat} {l1 : Option aV} {s0 : Int} (kt : s0 ≠ 10 → Rn d bc bs mX13_nextToken 39 [some (vR r0), l1] [] h n Q) (kf : s0 = 10 → Rn d bc bs mX13_nextToken 26 [some (vR r0), l1] [] h n Q) : Rn d (bc) (bs) mX13_nextToken 21 [some (vR r0), l1] [vI s0] h n Q := by
  refine Rn_bipush dX13_nextToken_21 rfl ?_
  refine Rn_icmpne (tgt := 39) dX13_nextToken_23 rfl ?_ ?_
  · exact kt
  · exact kf
theorem BX13_nextToken_26 {d bc bs : Nat} {h : aH} {n : Nat} {Q : aQ} {ar0 : Nat} {l1 : Option aV} {f1 : List aV} {v3 : Int} (h2 : h ar0 = cO 13 f1) (g4 : f1[7]? = some (vI v3)) (b5 : -2147483648 ≤ v3 + 1 ∧ v3 + 1 < 2147483648) (m6 : 7 < f1.length) (k : Rn d bc bs mX13_nextToken 36 [some (vR (some ar0)), l1] [] (up h ar0 (cO 13 (f1.set 7 (vI (v3 + 1))))) n Q) : Rn d (bc) (bs) mX13_nextToken 26 [some (vR (some ar0)), l1] [] h n Q := by
  refine Rn_aload_n dX13_nextToken_26 rfl rfl rfl ?_
  refine Rn_dup dX13_nextToken_27 rfl ?_
  refine Rn_getfield (ci := 13) (k := 7) dX13_nextToken_28 rfl in_13 (Nat.le_of_ble_eq_true rfl) wd_1359 rfl h2 g4 ?_
  refine Rn_iconst dX13_nextToken_31 rfl ?_
  refine Rn_iadd dX13_nextToken_32 ?_
  rw [w32_id b5.1 b5.2]
  refine Rn_putfield (ci := 13) (k := 7) dX13_nextToken_33 rfl in_13 tyX13_ok nmX13 (Nat.le_of_ble_eq_true rfl) wd_1359 rfl (Or.inl rfl) trivial m6 h2 ?_
  exact k
theorem BX13_nextToken_36 {d bc bs : Nat} {h : aH} {n : Nat} {Q : aQ} {r0 : Option Nat} {l1 : Option aV} (k : Rn d bc bs mX13_nextToken 0 [some (vR r0), l1] [] h n Q) : Rn d (bc) (bs) mX13_nextToken 36 [some (vR r0), l1] [] h n Q := by
  refine Rn_goto (tgt := 0) dX13_nextToken_36 rfl ?_
  exact k
theorem BX13_nextToken_39 {d bc bs : Nat} {h : aH} {n : Nat} {Q : aQ} {ar0 : Nat} {l1 : Option aV} {f1 : List aV} {v3 : Int} (h2 : h ar0 = cO 13 f1) (g4 : f1[7]? = some (vI v3)) (m5 : 8 < f1.length) (k : Rn d bc bs mX13_nextToken 47 [some (vR (some ar0)), l1] [] (up h ar0 (cO 13 (f1.set 8 (vI v3)))) n Q) : Rn d (bc) (bs) mX13_nextToken 39 [some (vR (some ar0)), l1] [] h n Q := by
  refine Rn_aload_n dX13_nextToken_39 rfl rfl rfl ?_
  refine Rn_aload_n dX13_nextToken_40 rfl rfl rfl ?_
  refine Rn_getfield (ci := 13) (k := 7) dX13_nextToken_41 rfl in_13 (Nat.le_of_ble_eq_true rfl) wd_1359 rfl h2 g4 ?_
  refine Rn_putfield (ci := 13) (k := 8) dX13_nextToken_44 rfl in_13 tyX13_ok nmX13 (Nat.le_of_ble_eq_true rfl) wd_1360 rfl (Or.inl rfl) trivial m5 h2 ?_
  exact k
theorem BX13_nextToken_47 {d bc bs : Nat} {h : aH} {n : Nat} {Q : aQ} {ar0 : Nat} {l1 : Option aV} {f1 : List aV} {v3 : Int} (h2 : h ar0 = cO 13 f1) (g4 : f1[7]? = some (vI v3)) (k : Rn d 0 0 mX13_byteAt 0 [some (vR (some ar0)), some (vI v3)] [] h n (fun v h1 n1 => Rn (d + 1) bc bs mX13_nextToken 55 [some (vR (some ar0)), l1] (v.toList ++ []) h1 n1 Q)) : Rn (d + 1) (bc) (bs) mX13_nextToken 47 [some (vR (some ar0)), l1] [] h n Q := by
  refine Rn_aload_n dX13_nextToken_47 rfl rfl rfl ?_
  refine Rn_aload_n dX13_nextToken_48 rfl rfl rfl ?_
  refine Rn_getfield (ci := 13) (k := 7) dX13_nextToken_49 rfl in_13 (Nat.le_of_ble_eq_true rfl) wd_1359 rfl h2 g4 ?_
  exact Rn_callV (ci := 13) (avs := [vI v3]) (st := []) (bc1 := 0) (bs1 := 0) (bc2 := bc) (bs2 := bs) fx_X13_byteAt dX13_nextToken_52 wd_1494 wd_1496 wd_48 rfl h2 rfl (Nat.le_of_ble_eq_true rfl) (Nat.le_of_ble_eq_true rfl) (by omega) (by omega) (ls1 := [some (vR (some ar0)), some (vI v3)]) rfl k
theorem BX13_nextToken_55 {d bc bs : Nat} {h : aH} {n : Nat} {Q : aQ} {r0 : Option Nat} {l1 : Option aV} {s0 : Int} (kt : 0 ≤ s0 → Rn d bc bs mX13_nextToken 68 [some (vR r0), some (vI s0)] [] h n Q) (kf : s0 < 0 → Rn d bc bs mX13_nextToken 60 [some (vR r0), some (vI s0)] [] h n Q) : Rn d (bc) (bs) mX13_nextToken 55 [some (vR r0), l1] [vI s0] h n Q := by
  refine Rn_istore_n dX13_nextToken_55 rfl (Nat.le_of_ble_eq_true rfl) rfl rfl ?_
  refine Rn_iload_n dX13_nextToken_56 rfl rfl ?_
  refine Rn_ifge (tgt := 68) dX13_nextToken_57 rfl ?_ ?_
  · exact kt
  · exact kf
theorem BX13_nextToken_60 {d bc bs : Nat} {h : aH} {n : Nat} {Q : aQ} {ar0 : Nat} {x1 : Int} {f1 : List aV} (h2 : h ar0 = cO 13 f1) (m3 : 9 < f1.length) (k : Rn d bc bs mX13_nextToken 65 [some (vR (some ar0)), some (vI x1)] [] (up h ar0 (cO 13 (f1.set 9 (vI 0)))) n Q) : Rn d (bc) (bs) mX13_nextToken 60 [some (vR (some ar0)), some (vI x1)] [] h n Q := by
  refine Rn_aload_n dX13_nextToken_60 rfl rfl rfl ?_
  refine Rn_iconst dX13_nextToken_61 rfl ?_
  refine Rn_putfield (ci := 13) (k := 9) dX13_nextToken_62 rfl in_13 tyX13_ok nmX13 (Nat.le_of_ble_eq_true rfl) wd_1361 rfl (Or.inl rfl) trivial m3 h2 ?_
  exact k
theorem BX13_nextToken_65 {d bc bs : Nat} {h : aH} {n : Nat} {Q : aQ} {r0 : Option Nat} {x1 : Int} (k : Q none h n) : Rn d (bc) (bs) mX13_nextToken 65 [some (vR r0), some (vI x1)] [] h n Q := by
  refine Rn_goto (tgt := 310) dX13_nextToken_65 rfl ?_
  exact Rn_return rfl dX13_nextToken_310 k
theorem BX13_nextToken_68 {d bc bs : Nat} {h : aH} {n : Nat} {Q : aQ} {r0 : Option Nat} {x1 : Int} (k : Rn d 0 0 mX13_isFigure 0 [some (vI x1)] [] h n (fun v h1 n1 => Rn (d + 1) bc bs mX13_nextToken 72 [some (vR r0), some (vI x1)] (v.toList ++ []) h1 n1 Q)) : Rn (d + 1) (bc) (bs) mX13_nextToken 68 [some (vR r0), some (vI x1)] [] h n Q := by
  refine Rn_iload_n dX13_nextToken_68 rfl rfl ?_
  exact Rn_callS (avs := [vI x1]) (st := []) (bc1 := 0) (bs1 := 0) (bc2 := bc) (bs2 := bs) fx_X13_isFigure dX13_nextToken_69 (Or.inl wd_1498) wd_1499 rfl (Nat.le_of_ble_eq_true rfl) (Nat.le_of_ble_eq_true rfl) (by omega) (by omega) (ls1 := [some (vI x1)]) rfl k
theorem BX13_nextToken_72 {d bc bs : Nat} {h : aH} {n : Nat} {Q : aQ} {r0 : Option Nat} {x1 s0 : Int} (kt : s0 = 0 → Rn d bc bs mX13_nextToken 151 [some (vR r0), some (vI x1)] [] h n Q) (kf : s0 ≠ 0 → Rn d bc bs mX13_nextToken 75 [some (vR r0), some (vI x1)] [] h n Q) : Rn d (bc) (bs) mX13_nextToken 72 [some (vR r0), some (vI x1)] [vI s0] h n Q := by
  refine Rn_ifeq (tgt := 151) dX13_nextToken_72 rfl ?_ ?_
  · exact kt
  · exact kf
theorem BX13_nextToken_75 {d bc bs : Nat} {h : aH} {n : Nat} {Q : aQ} {ar0 : Nat} {x1 : Int} {f1 : List aV} (h2 : h ar0 = cO 13 f1) (m3 : 9 < f1.length) (k : Rn d bc bs mX13_nextToken 80 [some (vR (some ar0)), some (vI x1)] [] (up h ar0 (cO 13 (f1.set 9 (vI 1)))) n Q) : Rn d (bc) (bs) mX13_nextToken 75 [some (vR (some ar0)), some (vI x1)] [] h n Q := by
  refine Rn_aload_n dX13_nextToken_75 rfl rfl rfl ?_
  refine Rn_iconst dX13_nextToken_76 rfl ?_
  refine Rn_putfield (ci := 13) (k := 9) dX13_nextToken_77 rfl in_13 tyX13_ok nmX13 (Nat.le_of_ble_eq_true rfl) wd_1361 rfl (Or.inl rfl) trivial m3 h2 ?_
  exact k
theorem BX13_nextToken_80 {d bc bs : Nat} {h : aH} {n : Nat} {Q : aQ} {ar0 : Nat} {x1 : Int} {f1 : List aV} (h2 : h ar0 = cO 13 f1) (m3 : 10 < f1.length) (k : Rn d bc bs mX13_nextToken 85 [some (vR (some ar0)), some (vI x1)] [] (up h ar0 (cO 13 (f1.set 10 (vI 0)))) n Q) : Rn d (bc) (bs) mX13_nextToken 80 [some (vR (some ar0)), some (vI x1)] [] h n Q := by
  refine Rn_aload_n dX13_nextToken_80 rfl rfl rfl ?_
  refine Rn_iconst dX13_nextToken_81 rfl ?_
  refine Rn_putfield (ci := 13) (k := 10) dX13_nextToken_82 rfl in_13 tyX13_ok nmX13 (Nat.le_of_ble_eq_true rfl) wd_1362 rfl (Or.inl rfl) trivial m3 h2 ?_
  exact k
theorem BX13_nextToken_85 {d bc bs : Nat} {h : aH} {n : Nat} {Q : aQ} {ar0 : Nat} {x1 v3 : Int} {f1 : List aV} (h2 : h ar0 = cO 13 f1) (g4 : f1[7]? = some (vI v3)) (k : Rn d 0 0 mX13_byteAt 0 [some (vR (some ar0)), some (vI v3)] [] h n (fun v h1 n1 => Rn (d + 1) bc bs mX13_nextToken 93 [some (vR (some ar0)), some (vI x1)] (v.toList ++ []) h1 n1 Q)) : Rn (d + 1) (bc) (bs) mX13_nextToken 85 [some (vR (some ar0)), some (vI x1)] [] h n Q := by
  refine Rn_aload_n dX13_nextToken_85 rfl rfl rfl ?_
  refine Rn_aload_n dX13_nextToken_86 rfl rfl rfl ?_
  refine Rn_getfield (ci := 13) (k := 7) dX13_nextToken_87 rfl in_13 (Nat.le_of_ble_eq_true rfl) wd_1359 rfl h2 g4 ?_
  exact Rn_callV (ci := 13) (avs := [vI v3]) (st := []) (bc1 := 0) (bs1 := 0) (bc2 := bc) (bs2 := bs) fx_X13_byteAt dX13_nextToken_90 wd_1494 wd_1496 wd_48 rfl h2 rfl (Nat.le_of_ble_eq_true rfl) (Nat.le_of_ble_eq_true rfl) (by omega) (by omega) (ls1 := [some (vR (some ar0)), some (vI v3)]) rfl k
theorem BX13_nextToken_93 {d bc bs : Nat} {h : aH} {n : Nat} {Q : aQ} {r0 : Option Nat} {x1 s0 : Int} (k : Rn d 0 0 mX13_isFigure 0 [some (vI s0)] [] h n (fun v h1 n1 => Rn (d + 1) bc bs mX13_nextToken 96 [some (vR r0), some (vI x1)] (v.toList ++ []) h1 n1 Q)) : Rn (d + 1) (bc) (bs) mX13_nextToken 93 [some (vR r0), some (vI x1)] [vI s0] h n Q := by
  exact Rn_callS (avs := [vI s0]) (st := []) (bc1 := 0) (bs1 := 0) (bc2 := bc) (bs2 := bs) fx_X13_isFigure dX13_nextToken_93 (Or.inl wd_1498) wd_1499 rfl (Nat.le_of_ble_eq_true rfl) (Nat.le_of_ble_eq_true rfl) (by omega) (by omega) (ls1 := [some (vI s0)]) rfl k
theorem BX13_nextToken_96 {d bc bs : Nat} {h : aH} {n : Nat} {Q : aQ} {r0 : Option Nat} {x1 s0 : Int} (kt : s0 = 0 → Rn d bc bs mX13_nextToken 310 [some (vR r0), some (vI x1)] [] h n Q) (kf : s0 ≠ 0 → Rn d bc bs mX13_nextToken 99 [some (vR r0), some (vI x1)] [] h n Q) : Rn d (bc) (bs) mX13_nextToken 96 [some (vR r0), some (vI x1)] [vI s0] h n Q := by
  refine Rn_ifeq (tgt := 310) dX13_nextToken_96 rfl ?_ ?_
  · exact kt
  · exact kf
theorem BX13_nextToken_99 {d bc bs : Nat} {h : aH} {n : Nat} {Q : aQ} {ar0 : Nat} {x1 v3 : Int} {f1 : List aV} (h2 : h ar0 = cO 13 f1) (g4 : f1[10]? = some (vI v3)) (kt : v3 ≤ 99999 → Rn d bc bs mX13_nextToken 116 [some (vR (some ar0)), some (vI x1)] [vR (some ar0)] h n Q) (kf : 99999 < v3 → Rn d bc bs mX13_nextToken 109 [some (vR (some ar0)), some (vI x1)] [vR (some ar0)] h n Q) : Rn d (bc) (bs) mX13_nextToken 99 [some (vR (some ar0)), some (vI x1)] [] h n Q := by
  refine Rn_aload_n dX13_nextToken_99 rfl rfl rfl ?_
  refine Rn_aload_n dX13_nextToken_100 rfl rfl rfl ?_
  refine Rn_getfield (ci := 13) (k := 10) dX13_nextToken_101 rfl in_13 (Nat.le_of_ble_eq_true rfl) wd_1362 rfl h2 g4 ?_
  refine Rn_ldc dX13_nextToken_104 wd_1501 rfl ?_
  refine Rn_icmple (tgt := 116) dX13_nextToken_106 rfl ?_ ?_
  · exact kt
  · exact kf
theorem BX13_nextToken_109 {d bc bs : Nat} {h : aH} {n : Nat} {Q : aQ} {ar0 aq0 : Nat} {x1 v3 : Int} {f1 f5 : List aV} (h2 : h ar0 = cO 13 f1) (g4 : f1[10]? = some (vI v3)) (h6 : h aq0 = cO 13 f5) (m7 : 10 < f5.length) (k : Rn d bc bs mX13_nextToken 138 [some (vR (some ar0)), some (vI x1)] [] (up h aq0 (cO 13 (f5.set 10 (vI v3)))) n Q) : Rn d (bc) (bs) mX13_nextToken 109 [some (vR (some ar0)), some (vI x1)] [vR (some aq0)] h n Q := by
  refine Rn_aload_n dX13_nextToken_109 rfl rfl rfl ?_
  refine Rn_getfield (ci := 13) (k := 10) dX13_nextToken_110 rfl in_13 (Nat.le_of_ble_eq_true rfl) wd_1362 rfl h2 g4 ?_
  refine Rn_goto (tgt := 135) dX13_nextToken_113 rfl ?_
  refine Rn_putfield (ci := 13) (k := 10) dX13_nextToken_135 rfl in_13 tyX13_ok nmX13 (Nat.le_of_ble_eq_true rfl) wd_1362 rfl (Or.inl rfl) trivial m7 h6 ?_
  exact k
theorem BX13_nextToken_116 {d bc bs : Nat} {h : aH} {n : Nat} {Q : aQ} {ar0 : Nat} {x1 v3 v6 : Int} {q0 : Option Nat} {f1 : List aV} (h2 : h ar0 = cO 13 f1) (g4 : f1[10]? = some (vI v3)) (b5 : -2147483648 ≤ 10 * v3 ∧ 10 * v3 < 2147483648) (g7 : f1[7]? = some (vI v6)) (k : Rn d 0 0 mX13_byteAt 0 [some (vR (some ar0)), some (vI v6)] [] h n (fun v h1 n1 => Rn (d + 1) bc bs mX13_nextToken 131 [some (vR (some ar0)), some (vI x1)] (v.toList ++ [vI (10 * v3), vR q0]) h1 n1 Q)) : Rn (d + 1) (bc) (bs) mX13_nextToken 116 [some (vR (some ar0)), some (vI x1)] [vR q0] h n Q := by
  refine Rn_bipush dX13_nextToken_116 rfl ?_
  refine Rn_aload_n dX13_nextToken_118 rfl rfl rfl ?_
  refine Rn_getfield (ci := 13) (k := 10) dX13_nextToken_119 rfl in_13 (Nat.le_of_ble_eq_true rfl) wd_1362 rfl h2 g4 ?_
  refine Rn_imul dX13_nextToken_122 ?_
  rw [w32_id b5.1 b5.2]
  refine Rn_aload_n dX13_nextToken_123 rfl rfl rfl ?_
  refine Rn_aload_n dX13_nextToken_124 rfl rfl rfl ?_
  refine Rn_getfield (ci := 13) (k := 7) dX13_nextToken_125 rfl in_13 (Nat.le_of_ble_eq_true rfl) wd_1359 rfl h2 g7 ?_
  exact Rn_callV (ci := 13) (avs := [vI v6]) (st := [vI (10 * v3), vR q0]) (bc1 := 0) (bs1 := 0) (bc2 := bc) (bs2 := bs) fx_X13_byteAt dX13_nextToken_128 wd_1494 wd_1496 wd_48 rfl h2 rfl (Nat.le_of_ble_eq_true rfl) (Nat.le_of_ble_eq_true rfl) (by omega) (by omega) (ls1 := [some (vR (some ar0)), some (vI v6)]) rfl k
theorem BX13_nextToken_131 {d bc bs : Nat} {h : aH} {n : Nat} {Q : aQ} {r0 : Option Nat} {x1 s1 s2 : Int} {aq0 : Nat} {f3 : List aV} (b1 : -2147483648 ≤ s1 + s2 ∧ s1 + s2 < 2147483648) (b2 : -2147483648 ≤ (s1 + s2) - 48 ∧ (s1 + s2) - 48 < 2147483648) (h4 : h aq0 = cO 13 f3) (m5 : 10 < f3.length) (k : Rn d bc bs mX13_nextToken 138 [some (vR r0), some (vI x1)] [] (up h aq0 (cO 13 (f3.set 10 (vI ((s1 + s2) - 48))))) n Q) : Rn d (bc) (bs) mX13_nextToken 131 [some (vR r0), some (vI x1)] [vI s2, vI s1, vR (some aq0)] h n Q := by
  refine Rn_iadd dX13_nextToken_131 ?_
  rw [w32_id b1.1 b1.2]
  refine Rn_bipush dX13_nextToken_132 rfl ?_
  refine Rn_isub dX13_nextToken_134 ?_
  rw [w32_id b2.1 b2.2]
  refine Rn_putfield (ci := 13) (k := 10) dX13_nextToken_135 rfl in_13 tyX13_ok nmX13 (Nat.le_of_ble_eq_true rfl) wd_1362 rfl (Or.inl rfl) trivial m5 h4 ?_
  exact k
theorem BX13_nextToken_138 {d bc bs : Nat} {h : aH} {n : Nat} {Q : aQ} {ar0 : Nat} {x1 v3 : Int} {f1 : List aV} (h2 : h ar0 = cO 13 f1) (g4 : f1[7]? = some (vI v3)) (b5 : -2147483648 ≤ v3 + 1 ∧ v3 + 1 < 2147483648) (m6 : 7 < f1.length) (k : Rn d bc bs mX13_nextToken 148 [some (vR (some ar0)), some (vI x1)] [] (up h ar0 (cO 13 (f1.set 7 (vI (v3 + 1))))) n Q) : Rn d (bc) (bs) mX13_nextToken 138 [some (vR (some ar0)), some (vI x1)] [] h n Q := by
  refine Rn_aload_n dX13_nextToken_138 rfl rfl rfl ?_
  refine Rn_dup dX13_nextToken_139 rfl ?_
  refine Rn_getfield (ci := 13) (k := 7) dX13_nextToken_140 rfl in_13 (Nat.le_of_ble_eq_true rfl) wd_1359 rfl h2 g4 ?_
  refine Rn_iconst dX13_nextToken_143 rfl ?_
  refine Rn_iadd dX13_nextToken_144 ?_
  rw [w32_id b5.1 b5.2]
  refine Rn_putfield (ci := 13) (k := 7) dX13_nextToken_145 rfl in_13 tyX13_ok nmX13 (Nat.le_of_ble_eq_true rfl) wd_1359 rfl (Or.inl rfl) trivial m6 h2 ?_
  exact k
theorem BX13_nextToken_148 {d bc bs : Nat} {h : aH} {n : Nat} {Q : aQ} {r0 : Option Nat} {x1 : Int} (k : Rn d bc bs mX13_nextToken 85 [some (vR r0), some (vI x1)] [] h n Q) : Rn d (bc) (bs) mX13_nextToken 148 [some (vR r0), some (vI x1)] [] h n Q := by
  refine Rn_goto (tgt := 85) dX13_nextToken_148 rfl ?_
  exact k
theorem BX13_nextToken_151 {d bc bs : Nat} {h : aH} {n : Nat} {Q : aQ} {r0 : Option Nat} {x1 : Int} (k : Rn d 0 0 mX13_isLetterByte 0 [some (vI x1)] [] h n (fun v h1 n1 => Rn (d + 1) bc bs mX13_nextToken 155 [some (vR r0), some (vI x1)] (v.toList ++ []) h1 n1 Q)) : Rn (d + 1) (bc) (bs) mX13_nextToken 151 [some (vR r0), some (vI x1)] [] h n Q := by
  refine Rn_iload_n dX13_nextToken_151 rfl rfl ?_
  exact Rn_callS (avs := [vI x1]) (st := []) (bc1 := 0) (bs1 := 0) (bc2 := bc) (bs2 := bs) fx_X13_isLetterByte dX13_nextToken_152 (Or.inl wd_1502) wd_1503 rfl (Nat.le_of_ble_eq_true rfl) (Nat.le_of_ble_eq_true rfl) (by omega) (by omega) (ls1 := [some (vI x1)]) rfl k
theorem BX13_nextToken_155 {d bc bs : Nat} {h : aH} {n : Nat} {Q : aQ} {r0 : Option Nat} {x1 s0 : Int} (kt : s0 = 0 → Rn d bc bs mX13_nextToken 234 [some (vR r0), some (vI x1)] [] h n Q) (kf : s0 ≠ 0 → Rn d bc bs mX13_nextToken 158 [some (vR r0), some (vI x1)] [] h n Q) : Rn d (bc) (bs) mX13_nextToken 155 [some (vR r0), some (vI x1)] [vI s0] h n Q := by
  refine Rn_ifeq (tgt := 234) dX13_nextToken_155 rfl ?_ ?_
  · exact kt
  · exact kf
theorem BX13_nextToken_158 {d bc bs : Nat} {h : aH} {n : Nat} {Q : aQ} {ar0 : Nat} {x1 : Int} {f1 : List aV} (h2 : h ar0 = cO 13 f1) (m3 : 9 < f1.length) (k : Rn d bc bs mX13_nextToken 163 [some (vR (some ar0)), some (vI x1)] [] (up h ar0 (cO 13 (f1.set 9 (vI 2)))) n Q) : Rn d (bc) (bs) mX13_nextToken 158 [some (vR (some ar0)), some (vI x1)] [] h n Q := by
  refine Rn_aload_n dX13_nextToken_158 rfl rfl rfl ?_
  refine Rn_iconst dX13_nextToken_159 rfl ?_
  refine Rn_putfield (ci := 13) (k := 9) dX13_nextToken_160 rfl in_13 tyX13_ok nmX13 (Nat.le_of_ble_eq_true rfl) wd_1361 rfl (Or.inl rfl) trivial m3 h2 ?_
  exact k
theorem BX13_nextToken_163 {d bc bs : Nat} {h : aH} {n : Nat} {Q : aQ} {ar0 : Nat} {x1 : Int} {f1 : List aV} (h2 : h ar0 = cO 13 f1) (m3 : 11 < f1.length) (k : Rn d bc bs mX13_nextToken 168 [some (vR (some ar0)), some (vI x1)] [] (up h ar0 (cO 13 (f1.set 11 (vL 0)))) n Q) : Rn d (bc) (bs) mX13_nextToken 163 [some (vR (some ar0)), some (vI x1)] [] h n Q := by
  refine Rn_aload_n dX13_nextToken_163 rfl rfl rfl ?_
  refine Rn_lconst (x := 0) dX13_nextToken_164 rfl ?_
  refine Rn_putfield (ci := 13) (k := 11) dX13_nextToken_165 rfl in_13 tyX13_ok nmX13 (Nat.le_of_ble_eq_true rfl) wd_1363 rfl (Or.inl rfl) trivial m3 h2 ?_
  exact k
theorem BX13_nextToken_168 {d bc bs : Nat} {h : aH} {n : Nat} {Q : aQ} {ar0 : Nat} {x1 v3 : Int} {f1 : List aV} (h2 : h ar0 = cO 13 f1) (g4 : f1[7]? = some (vI v3)) (k : Rn d 0 0 mX13_byteAt 0 [some (vR (some ar0)), some (vI v3)] [] h n (fun v h1 n1 => Rn (d + 1) bc bs mX13_nextToken 176 [some (vR (some ar0)), some (vI x1)] (v.toList ++ []) h1 n1 Q)) : Rn (d + 1) (bc) (bs) mX13_nextToken 168 [some (vR (some ar0)), some (vI x1)] [] h n Q := by
  refine Rn_aload_n dX13_nextToken_168 rfl rfl rfl ?_
  refine Rn_aload_n dX13_nextToken_169 rfl rfl rfl ?_
  refine Rn_getfield (ci := 13) (k := 7) dX13_nextToken_170 rfl in_13 (Nat.le_of_ble_eq_true rfl) wd_1359 rfl h2 g4 ?_
  exact Rn_callV (ci := 13) (avs := [vI v3]) (st := []) (bc1 := 0) (bs1 := 0) (bc2 := bc) (bs2 := bs) fx_X13_byteAt dX13_nextToken_173 wd_1494 wd_1496 wd_48 rfl h2 rfl (Nat.le_of_ble_eq_true rfl) (Nat.le_of_ble_eq_true rfl) (by omega) (by omega) (ls1 := [some (vR (some ar0)), some (vI v3)]) rfl k
theorem BX13_nextToken_176 {d bc bs : Nat} {h : aH} {n : Nat} {Q : aQ} {r0 : Option Nat} {x1 s0 : Int} (k : Rn d 0 0 mX13_isLetterByte 0 [some (vI s0)] [] h n (fun v h1 n1 => Rn (d + 1) bc bs mX13_nextToken 179 [some (vR r0), some (vI x1)] (v.toList ++ []) h1 n1 Q)) : Rn (d + 1) (bc) (bs) mX13_nextToken 176 [some (vR r0), some (vI x1)] [vI s0] h n Q := by
  exact Rn_callS (avs := [vI s0]) (st := []) (bc1 := 0) (bs1 := 0) (bc2 := bc) (bs2 := bs) fx_X13_isLetterByte dX13_nextToken_176 (Or.inl wd_1502) wd_1503 rfl (Nat.le_of_ble_eq_true rfl) (Nat.le_of_ble_eq_true rfl) (by omega) (by omega) (ls1 := [some (vI s0)]) rfl k
theorem BX13_nextToken_179 {d bc bs : Nat} {h : aH} {n : Nat} {Q : aQ} {r0 : Option Nat} {x1 s0 : Int} (kt : s0 = 0 → Rn d bc bs mX13_nextToken 310 [some (vR r0), some (vI x1)] [] h n Q) (kf : s0 ≠ 0 → Rn d bc bs mX13_nextToken 182 [some (vR r0), some (vI x1)] [] h n Q) : Rn d (bc) (bs) mX13_nextToken 179 [some (vR r0), some (vI x1)] [vI s0] h n Q := by
  refine Rn_ifeq (tgt := 310) dX13_nextToken_179 rfl ?_ ?_
  · exact kt
  · exact kf
theorem BX13_nextToken_182 {d bc bs : Nat} {h : aH} {n : Nat} {Q : aQ} {ar0 : Nat} {x1 v3 : Int} {f1 : List aV} (h2 : h ar0 = cO 13 f1) (g4 : f1[11]? = some (vL v3)) (kt : (shr64 v3 48) = 0 → Rn d bc bs mX13_nextToken 201 [some (vR (some ar0)), some (vI x1)] [vR (some ar0)] h n Q) (kf : (shr64 v3 48) ≠ 0 → Rn d bc bs mX13_nextToken 195 [some (vR (some ar0)), some (vI x1)] [vR (some ar0)] h n Q) : Rn d (bc) (bs) mX13_nextToken 182 [some (vR (some ar0)), some (vI x1)] [] h n Q := by
  refine Rn_aload_n dX13_nextToken_182 rfl rfl rfl ?_
  refine Rn_aload_n dX13_nextToken_183 rfl rfl rfl ?_
  refine Rn_getfield (ci := 13) (k := 11) dX13_nextToken_184 rfl in_13 (Nat.le_of_ble_eq_true rfl) wd_1363 rfl h2 g4 ?_
  refine Rn_bipush dX13_nextToken_187 rfl ?_
  refine Rn_lshr dX13_nextToken_189 ?_
  refine Rn_lconst (x := 0) dX13_nextToken_190 rfl ?_
  refine Rn_lcmp dX13_nextToken_191 ?_
  refine Rn_ifeq (tgt := 201) dX13_nextToken_192 rfl ?_ ?_
  · exact fun q => kt (lc_eq q)
  · exact fun q => kf (lc_ne q)
theorem BX13_nextToken_195 {d bc bs : Nat} {h : aH} {n : Nat} {Q : aQ} {r0 : Option Nat} {x1 : Int} {aq0 : Nat} {f1 : List aV} (h2 : h aq0 = cO 13 f1) (m3 : 11 < f1.length) (k : Rn d bc bs mX13_nextToken 221 [some (vR r0), some (vI x1)] [] (up h aq0 (cO 13 (f1.set 11 (vL 1152921504606846976)))) n Q) : Rn d (bc) (bs) mX13_nextToken 195 [some (vR r0), some (vI x1)] [vR (some aq0)] h n Q := by
  refine Rn_ldc2 (x := 1152921504606846976) dX13_nextToken_195 wd_1505 rfl ?_
  refine Rn_goto (tgt := 218) dX13_nextToken_198 rfl ?_
  refine Rn_putfield (ci := 13) (k := 11) dX13_nextToken_218 rfl in_13 tyX13_ok nmX13 (Nat.le_of_ble_eq_true rfl) wd_1363 rfl (Or.inl rfl) trivial m3 h2 ?_
  exact k
theorem BX13_nextToken_201 {d bc bs : Nat} {h : aH} {n : Nat} {Q : aQ} {ar0 : Nat} {x1 v3 v5 : Int} {q0 : Option Nat} {f1 : List aV} (h2 : h ar0 = cO 13 f1) (g4 : f1[11]? = some (vL v3)) (g6 : f1[7]? = some (vI v5)) (k : Rn d 0 0 mX13_byteAt 0 [some (vR (some ar0)), some (vI v5)] [] h n (fun v h1 n1 => Rn (d + 1) bc bs mX13_nextToken 216 [some (vR (some ar0)), some (vI x1)] (v.toList ++ [vL (shl64 v3 8), vR q0]) h1 n1 Q)) : Rn (d + 1) (bc) (bs) mX13_nextToken 201 [some (vR (some ar0)), some (vI x1)] [vR q0] h n Q := by
  refine Rn_aload_n dX13_nextToken_201 rfl rfl rfl ?_
  refine Rn_getfield (ci := 13) (k := 11) dX13_nextToken_202 rfl in_13 (Nat.le_of_ble_eq_true rfl) wd_1363 rfl h2 g4 ?_
  refine Rn_bipush dX13_nextToken_205 rfl ?_
  refine Rn_lshl dX13_nextToken_207 ?_
  refine Rn_aload_n dX13_nextToken_208 rfl rfl rfl ?_
  refine Rn_aload_n dX13_nextToken_209 rfl rfl rfl ?_
  refine Rn_getfield (ci := 13) (k := 7) dX13_nextToken_210 rfl in_13 (Nat.le_of_ble_eq_true rfl) wd_1359 rfl h2 g6 ?_
  exact Rn_callV (ci := 13) (avs := [vI v5]) (st := [vL (shl64 v3 8), vR q0]) (bc1 := 0) (bs1 := 0) (bc2 := bc) (bs2 := bs) fx_X13_byteAt dX13_nextToken_213 wd_1494 wd_1496 wd_48 rfl h2 rfl (Nat.le_of_ble_eq_true rfl) (Nat.le_of_ble_eq_true rfl) (by omega) (by omega) (ls1 := [some (vR (some ar0)), some (vI v5)]) rfl k
theorem BX13_nextToken_216 {d bc bs : Nat} {h : aH} {n : Nat} {Q : aQ} {r0 : Option Nat} {x1 s1 s2 : Int} {aq0 : Nat} {f1 : List aV} (h2 : h aq0 = cO 13 f1) (m3 : 11 < f1.length) (k : Rn d bc bs mX13_nextToken 221 [some (vR r0), some (vI x1)] [] (up h aq0 (cO 13 (f1.set 11 (vL (or64 s1 s2))))) n Q) : Rn d (bc) (bs) mX13_nextToken 216 [some (vR r0), some (vI x1)] [vI s2, vL s1, vR (some aq0)] h n Q := by
  refine Rn_i2l dX13_nextToken_216 ?_
  refine Rn_lor dX13_nextToken_217 ?_
  refine Rn_putfield (ci := 13) (k := 11) dX13_nextToken_218 rfl in_13 tyX13_ok nmX13 (Nat.le_of_ble_eq_true rfl) wd_1363 rfl (Or.inl rfl) trivial m3 h2 ?_
  exact k
theorem BX13_nextToken_221 {d bc bs : Nat} {h : aH} {n : Nat} {Q : aQ} {ar0 : Nat} {x1 v3 : Int} {f1 : List aV} (h2 : h ar0 = cO 13 f1) (g4 : f1[7]? = some (vI v3)) (b5 : -2147483648 ≤ v3 + 1 ∧ v3 + 1 < 2147483648) (m6 : 7 < f1.length) (k : Rn d bc bs mX13_nextToken 231 [some (vR (some ar0)), some (vI x1)] [] (up h ar0 (cO 13 (f1.set 7 (vI (v3 + 1))))) n Q) : Rn d (bc) (bs) mX13_nextToken 221 [some (vR (some ar0)), some (vI x1)] [] h n Q := by
  refine Rn_aload_n dX13_nextToken_221 rfl rfl rfl ?_
  refine Rn_dup dX13_nextToken_222 rfl ?_
  refine Rn_getfield (ci := 13) (k := 7) dX13_nextToken_223 rfl in_13 (Nat.le_of_ble_eq_true rfl) wd_1359 rfl h2 g4 ?_
  refine Rn_iconst dX13_nextToken_226 rfl ?_
  refine Rn_iadd dX13_nextToken_227 ?_
  rw [w32_id b5.1 b5.2]
  refine Rn_putfield (ci := 13) (k := 7) dX13_nextToken_228 rfl in_13 tyX13_ok nmX13 (Nat.le_of_ble_eq_true rfl) wd_1359 rfl (Or.inl rfl) trivial m6 h2 ?_
  exact k
theorem BX13_nextToken_231 {d bc bs : Nat} {h : aH} {n : Nat} {Q : aQ} {r0 : Option Nat} {x1 : Int} (k : Rn d bc bs mX13_nextToken 168 [some (vR r0), some (vI x1)] [] h n Q) : Rn d (bc) (bs) mX13_nextToken 231 [some (vR r0), some (vI x1)] [] h n Q := by
  refine Rn_goto (tgt := 168) dX13_nextToken_231 rfl ?_
  exact k
theorem BX13_nextToken_234 {d bc bs : Nat} {h : aH} {n : Nat} {Q : aQ} {r0 : Option Nat} {x1 : Int} (k : Rn d 0 0 mX13_isSign 0 [some (vI x1)] [] h n (fun v h1 n1 => Rn (d + 1) bc bs mX13_nextToken 239 [some (vR r0), some (vI x1)] (v.toList ++ [vR r0]) h1 n1 Q)) : Rn (d + 1) (bc) (bs) mX13_nextToken 234 [some (vR r0), some (vI x1)] [] h n Q := by
  refine Rn_aload_n dX13_nextToken_234 rfl rfl rfl ?_
  refine Rn_iload_n dX13_nextToken_235 rfl rfl ?_
  exact Rn_callS (avs := [vI x1]) (st := [vR r0]) (bc1 := 0) (bs1 := 0) (bc2 := bc) (bs2 := bs) fx_X13_isSign dX13_nextToken_236 (Or.inl wd_1506) wd_1507 rfl (Nat.le_of_ble_eq_true rfl) (Nat.le_of_ble_eq_true rfl) (by omega) (by omega) (ls1 := [some (vI x1)]) rfl k
theorem BX13_nextToken_239 {d bc bs : Nat} {h : aH} {n : Nat} {Q : aQ} {r0 q0 : Option Nat} {x1 s1 : Int} (kt : s1 = 0 → Rn d bc bs mX13_nextToken 246 [some (vR r0), some (vI x1)] [vR q0] h n Q) (kf : s1 ≠ 0 → Rn d bc bs mX13_nextToken 242 [some (vR r0), some (vI x1)] [vR q0] h n Q) : Rn d (bc) (bs) mX13_nextToken 239 [some (vR r0), some (vI x1)] [vI s1, vR q0] h n Q := by
  refine Rn_ifeq (tgt := 246) dX13_nextToken_239 rfl ?_ ?_
  · exact kt
  · exact kf
theorem BX13_nextToken_242 {d bc bs : Nat} {h : aH} {n : Nat} {Q : aQ} {r0 : Option Nat} {x1 : Int} {aq0 : Nat} {f1 : List aV} (h2 : h aq0 = cO 13 f1) (m3 : 9 < f1.length) (k : Rn d bc bs mX13_nextToken 250 [some (vR r0), some (vI x1)] [] (up h aq0 (cO 13 (f1.set 9 (vI x1)))) n Q) : Rn d (bc) (bs) mX13_nextToken 242 [some (vR r0), some (vI x1)] [vR (some aq0)] h n Q := by
  refine Rn_iload_n dX13_nextToken_242 rfl rfl ?_
  refine Rn_goto (tgt := 247) dX13_nextToken_243 rfl ?_
  refine Rn_putfield (ci := 13) (k := 9) dX13_nextToken_247 rfl in_13 tyX13_ok nmX13 (Nat.le_of_ble_eq_true rfl) wd_1361 rfl (Or.inl rfl) trivial m3 h2 ?_
  exact k
theorem BX13_nextToken_246 {d bc bs : Nat} {h : aH} {n : Nat} {Q : aQ} {r0 : Option Nat} {x1 : Int} {aq0 : Nat} {f1 : List aV} (h2 : h aq0 = cO 13 f1) (m3 : 9 < f1.length) (k : Rn d bc bs mX13_nextToken 250 [some (vR r0), some (vI x1)] [] (up h aq0 (cO 13 (f1.set 9 (vI 3)))) n Q) : Rn d (bc) (bs) mX13_nextToken 246 [some (vR r0), some (vI x1)] [vR (some aq0)] h n Q := by
  refine Rn_iconst dX13_nextToken_246 rfl ?_
  refine Rn_putfield (ci := 13) (k := 9) dX13_nextToken_247 rfl in_13 tyX13_ok nmX13 (Nat.le_of_ble_eq_true rfl) wd_1361 rfl (Or.inl rfl) trivial m3 h2 ?_
  exact k
theorem BX13_nextToken_250 {d bc bs : Nat} {h : aH} {n : Nat} {Q : aQ} {ar0 : Nat} {x1 v3 : Int} {f1 : List aV} (h2 : h ar0 = cO 13 f1) (g4 : f1[7]? = some (vI v3)) (b5 : -2147483648 ≤ v3 + 1 ∧ v3 + 1 < 2147483648) (m6 : 7 < f1.length) (k : Rn d bc bs mX13_nextToken 260 [some (vR (some ar0)), some (vI x1)] [] (up h ar0 (cO 13 (f1.set 7 (vI (v3 + 1))))) n Q) : Rn d (bc) (bs) mX13_nextToken 250 [some (vR (some ar0)), some (vI x1)] [] h n Q := by
  refine Rn_aload_n dX13_nextToken_250 rfl rfl rfl ?_
  refine Rn_dup dX13_nextToken_251 rfl ?_
  refine Rn_getfield (ci := 13) (k := 7) dX13_nextToken_252 rfl in_13 (Nat.le_of_ble_eq_true rfl) wd_1359 rfl h2 g4 ?_
  refine Rn_iconst dX13_nextToken_255 rfl ?_
  refine Rn_iadd dX13_nextToken_256 ?_
  rw [w32_id b5.1 b5.2]
  refine Rn_putfield (ci := 13) (k := 7) dX13_nextToken_257 rfl in_13 tyX13_ok nmX13 (Nat.le_of_ble_eq_true rfl) wd_1359 rfl (Or.inl rfl) trivial m6 h2 ?_
  exact k
theorem BX13_nextToken_260 {d bc bs : Nat} {h : aH} {n : Nat} {Q : aQ} {r0 : Option Nat} {x1 : Int} (kt : x1 = 60 → Rn d bc bs mX13_nextToken 272 [some (vR r0), some (vI x1)] [] h n Q) (kf : x1 ≠ 60 → Rn d bc bs mX13_nextToken 266 [some (vR r0), some (vI x1)] [] h n Q) : Rn d (bc) (bs) mX13_nextToken 260 [some (vR r0), some (vI x1)] [] h n Q := by
  refine Rn_iload_n dX13_nextToken_260 rfl rfl ?_
  refine Rn_bipush dX13_nextToken_261 rfl ?_
  refine Rn_icmpeq (tgt := 272) dX13_nextToken_263 rfl ?_ ?_
  · exact kt
  · exact kf
theorem BX13_nextToken_266 {d bc bs : Nat} {h : aH} {n : Nat} {Q : aQ} {r0 : Option Nat} {x1 : Int} (kt : x1 ≠ 62 → Rn d bc bs mX13_nextToken 310 [some (vR r0), some (vI x1)] [] h n Q) (kf : x1 = 62 → Rn d bc bs mX13_nextToken 272 [some (vR r0), some (vI x1)] [] h n Q) : Rn d (bc) (bs) mX13_nextToken 266 [some (vR r0), some (vI x1)] [] h n Q := by
  refine Rn_iload_n dX13_nextToken_266 rfl rfl ?_
  refine Rn_bipush dX13_nextToken_267 rfl ?_
  refine Rn_icmpne (tgt := 310) dX13_nextToken_269 rfl ?_ ?_
  · exact kt
  · exact kf
theorem BX13_nextToken_272 {d bc bs : Nat} {h : aH} {n : Nat} {Q : aQ} {ar0 : Nat} {x1 v3 : Int} {f1 : List aV} (h2 : h ar0 = cO 13 f1) (g4 : f1[7]? = some (vI v3)) (k : Rn d 0 0 mX13_byteAt 0 [some (vR (some ar0)), some (vI v3)] [] h n (fun v h1 n1 => Rn (d + 1) bc bs mX13_nextToken 280 [some (vR (some ar0)), some (vI x1)] (v.toList ++ []) h1 n1 Q)) : Rn (d + 1) (bc) (bs) mX13_nextToken 272 [some (vR (some ar0)), some (vI x1)] [] h n Q := by
  refine Rn_aload_n dX13_nextToken_272 rfl rfl rfl ?_
  refine Rn_aload_n dX13_nextToken_273 rfl rfl rfl ?_
  refine Rn_getfield (ci := 13) (k := 7) dX13_nextToken_274 rfl in_13 (Nat.le_of_ble_eq_true rfl) wd_1359 rfl h2 g4 ?_
  exact Rn_callV (ci := 13) (avs := [vI v3]) (st := []) (bc1 := 0) (bs1 := 0) (bc2 := bc) (bs2 := bs) fx_X13_byteAt dX13_nextToken_277 wd_1494 wd_1496 wd_48 rfl h2 rfl (Nat.le_of_ble_eq_true rfl) (Nat.le_of_ble_eq_true rfl) (by omega) (by omega) (ls1 := [some (vR (some ar0)), some (vI v3)]) rfl k
theorem BX13_nextToken_280 {d bc bs : Nat} {h : aH} {n : Nat} {Q : aQ} {r0 : Option Nat} {x1 s0 : Int} (kt : s0 ≠ 61 → Rn d bc bs mX13_nextToken 310 [some (vR r0), some (vI x1)] [] h n Q) (kf : s0 = 61 → Rn d bc bs mX13_nextToken 285 [some (vR r0), some (vI x1)] [] h n Q) : Rn d (bc) (bs) mX13_nextToken 280 [some (vR r0), some (vI x1)] [vI s0] h n Q := by
  refine Rn_bipush dX13_nextToken_280 rfl ?_
  refine Rn_icmpne (tgt := 310) dX13_nextToken_282 rfl ?_ ?_
  · exact kt
  · exact kf
theorem BX13_nextToken_285 {d bc bs : Nat} {h : aH} {n : Nat} {Q : aQ} {r0 : Option Nat} {x1 : Int} (kt : x1 ≠ 60 → Rn d bc bs mX13_nextToken 296 [some (vR r0), some (vI x1)] [vR r0] h n Q) (kf : x1 = 60 → Rn d bc bs mX13_nextToken 292 [some (vR r0), some (vI x1)] [vR r0] h n Q) : Rn d (bc) (bs) mX13_nextToken 285 [some (vR r0), some (vI x1)] [] h n Q := by
  refine Rn_aload_n dX13_nextToken_285 rfl rfl rfl ?_
  refine Rn_iload_n dX13_nextToken_286 rfl rfl ?_
  refine Rn_bipush dX13_nextToken_287 rfl ?_
  refine Rn_icmpne (tgt := 296) dX13_nextToken_289 rfl ?_ ?_
  · exact kt
  · exact kf
theorem BX13_nextToken_292 {d bc bs : Nat} {h : aH} {n : Nat} {Q : aQ} {r0 : Option Nat} {x1 : Int} {aq0 : Nat} {f1 : List aV} (h2 : h aq0 = cO 13 f1) (m3 : 9 < f1.length) (k : Rn d bc bs mX13_nextToken 300 [some (vR r0), some (vI x1)] [] (up h aq0 (cO 13 (f1.set 9 (vI 4)))) n Q) : Rn d (bc) (bs) mX13_nextToken 292 [some (vR r0), some (vI x1)] [vR (some aq0)] h n Q := by
  refine Rn_iconst dX13_nextToken_292 rfl ?_
  refine Rn_goto (tgt := 297) dX13_nextToken_293 rfl ?_
  refine Rn_putfield (ci := 13) (k := 9) dX13_nextToken_297 rfl in_13 tyX13_ok nmX13 (Nat.le_of_ble_eq_true rfl) wd_1361 rfl (Or.inl rfl) trivial m3 h2 ?_
  exact k
theorem BX13_nextToken_296 {d bc bs : Nat} {h : aH} {n : Nat} {Q : aQ} {r0 : Option Nat} {x1 : Int} {aq0 : Nat} {f1 : List aV} (h2 : h aq0 = cO 13 f1) (m3 : 9 < f1.length) (k : Rn d bc bs mX13_nextToken 300 [some (vR r0), some (vI x1)] [] (up h aq0 (cO 13 (f1.set 9 (vI 5)))) n Q) : Rn d (bc) (bs) mX13_nextToken 296 [some (vR r0), some (vI x1)] [vR (some aq0)] h n Q := by
  refine Rn_iconst dX13_nextToken_296 rfl ?_
  refine Rn_putfield (ci := 13) (k := 9) dX13_nextToken_297 rfl in_13 tyX13_ok nmX13 (Nat.le_of_ble_eq_true rfl) wd_1361 rfl (Or.inl rfl) trivial m3 h2 ?_
  exact k
theorem BX13_nextToken_300 {d bc bs : Nat} {h : aH} {n : Nat} {Q : aQ} {ar0 : Nat} {x1 v3 : Int} {f1 : List aV} (h2 : h ar0 = cO 13 f1) (g4 : f1[7]? = some (vI v3)) (b5 : -2147483648 ≤ v3 + 1 ∧ v3 + 1 < 2147483648) (m6 : 7 < f1.length) (k : Rn d bc bs mX13_nextToken 310 [some (vR (some ar0)), some (vI x1)] [] (up h ar0 (cO 13 (f1.set 7 (vI (v3 + 1))))) n Q) : Rn d (bc) (bs) mX13_nextToken 300 [some (vR (some ar0)), some (vI x1)] [] h n Q := by
  refine Rn_aload_n dX13_nextToken_300 rfl rfl rfl ?_
  refine Rn_dup dX13_nextToken_301 rfl ?_
  refine Rn_getfield (ci := 13) (k := 7) dX13_nextToken_302 rfl in_13 (Nat.le_of_ble_eq_true rfl) wd_1359 rfl h2 g4 ?_
  refine Rn_iconst dX13_nextToken_305 rfl ?_
  refine Rn_iadd dX13_nextToken_306 ?_
  rw [w32_id b5.1 b5.2]
  refine Rn_putfield (ci := 13) (k := 7) dX13_nextToken_307 rfl in_13 tyX13_ok nmX13 (Nat.le_of_ble_eq_true rfl) wd_1359 rfl (Or.inl rfl) trivial m6 h2 ?_
  exact k
theorem BX13_nextToken_310 {d bc bs : Nat} {h : aH} {n : Nat} {Q : aQ} {r0 : Option Nat} {x1 : Int} (k : Q none h n) : Rn d (bc) (bs) mX13_nextToken 310 [some (vR r0), some (vI x1)] [] h n Q := by
  exact Rn_return rfl dX13_nextToken_310 k
theorem dX13_w2_0 : decode cX13_w2 0 = .ok (.iload_n 0, 1) := by decide +kernel
theorem dX13_w2_1 : decode cX13_w2 1 = .ok (.i2l, 1) := by decide +kernel
theorem dX13_w2_2 : decode cX13_w2 2 = .ok (.bipush 8, 2) := by decide +kernel
theorem dX13_w2_4 : decode cX13_w2 4 = .ok (.lshl, 1) := by decide +kernel
theorem dX13_w2_5 : decode cX13_w2 5 = .ok (.iload_n 1, 1) := by decide +kernel
theorem dX13_w2_6 : decode cX13_w2 6 = .ok (.i2l, 1) := by decide +kernel
theorem dX13_w2_7 : decode cX13_w2 7 = .ok (.lor, 1) := by decide +kernel
theorem dX13_w2_8 : decode cX13_w2 8 = .ok (.lreturn, 1) := by decide +kernel
theorem BX13_w2_0 {d bc bs : Nat} {h : aH} {n : Nat} {Q : aQ} {x0 x1 : Int} (k : Q (some (vL (or64 (shl64 x0 8) x1))) h n) : Rn d (bc) (bs) mX13_w2 0 [some (vI x0), some (vI x1)] [] h n Q := by
  refine Rn_iload_n dX13_w2_0 rfl rfl ?_
  refine Rn_i2l dX13_w2_1 ?_
  refine Rn_bipush dX13_w2_2 rfl ?_
  refine Rn_lshl dX13_w2_4 ?_
  refine Rn_iload_n dX13_w2_5 rfl rfl ?_
  refine Rn_i2l dX13_w2_6 ?_
  refine Rn_lor dX13_w2_7 ?_
  exact Rn_lreturn rfl dX13_w2_8 k
theorem dX13_w3_0 : decode cX13_w3 0 = .ok (.iload_n 0, 1) := by decide +kernel
theorem dX13_w3_1 : decode cX13_w3 1 = .ok (.iload_n 1, 1) := by decide +kernel
theorem dX13_w3_2 : decode cX13_w3 2 = .ok (.invokestatic 126, 3) := by decide +kernel
theorem dX13_w3_5 : decode cX13_w3 5 = .ok (.bipush 8, 2) := by decide +kernel
theorem dX13_w3_7 : decode cX13_w3 7 = .ok (.lshl, 1) := by decide +kernel
theorem dX13_w3_8 : decode cX13_w3 8 = .ok (.iload_n 2, 1) := by decide +kernel
theorem dX13_w3_9 : decode cX13_w3 9 = .ok (.i2l, 1) := by decide +kernel
theorem dX13_w3_10 : decode cX13_w3 10 = .ok (.lor, 1) := by decide +kernel
theorem dX13_w3_11 : decode cX13_w3 11 = .ok (.lreturn, 1) := by decide +kernel
theorem BX13_w3_0 {d bc bs : Nat} {h : aH} {n : Nat} {Q : aQ} {x0 x1 x2 : Int} (k : Rn d 0 0 mX13_w2 0 [some (vI x0), some (vI x1)] [] h n (fun v h1 n1 => Rn (d + 1) bc bs mX13_w3 5 [some (vI x0), some (vI x1), some (vI x2)] (v.toList ++ []) h1 n1 Q)) : Rn (d + 1) (bc) (bs) mX13_w3 0 [some (vI x0), some (vI x1), some (vI x2)] [] h n Q := by
  refine Rn_iload_n dX13_w3_0 rfl rfl ?_
  refine Rn_iload_n dX13_w3_1 rfl rfl ?_
  exact Rn_callS (avs := [vI x0, vI x1]) (st := []) (bc1 := 0) (bs1 := 0) (bc2 := bc) (bs2 := bs) fx_X13_w2 dX13_w3_2 (Or.inl wd_1526) wd_1527 rfl (Nat.le_of_ble_eq_true rfl) (Nat.le_of_ble_eq_true rfl) (by omega) (by omega) (ls1 := [some (vI x0), some (vI x1)]) rfl k
theorem BX13_w3_5 {d bc bs : Nat} {h : aH} {n : Nat} {Q : aQ} {x0 x1 x2 s0 : Int} (k : Q (some (vL (or64 (shl64 s0 8) x2))) h n) : Rn d (bc) (bs) mX13_w3 5 [some (vI x0), some (vI x1), some (vI x2)] [vL s0] h n Q := by
  refine Rn_bipush dX13_w3_5 rfl ?_
  refine Rn_lshl dX13_w3_7 ?_
  refine Rn_iload_n dX13_w3_8 rfl rfl ?_
  refine Rn_i2l dX13_w3_9 ?_
  refine Rn_lor dX13_w3_10 ?_
  exact Rn_lreturn rfl dX13_w3_11 k
theorem dX13_w4_0 : decode cX13_w4 0 = .ok (.iload_n 0, 1) := by decide +kernel
theorem dX13_w4_1 : decode cX13_w4 1 = .ok (.iload_n 1, 1) := by decide +kernel
theorem dX13_w4_2 : decode cX13_w4 2 = .ok (.iload_n 2, 1) := by decide +kernel
theorem dX13_w4_3 : decode cX13_w4 3 = .ok (.invokestatic 130, 3) := by decide +kernel
theorem dX13_w4_6 : decode cX13_w4 6 = .ok (.bipush 8, 2) := by decide +kernel
theorem dX13_w4_8 : decode cX13_w4 8 = .ok (.lshl, 1) := by decide +kernel
theorem dX13_w4_9 : decode cX13_w4 9 = .ok (.iload_n 3, 1) := by decide +kernel
theorem dX13_w4_10 : decode cX13_w4 10 = .ok (.i2l, 1) := by decide +kernel
theorem dX13_w4_11 : decode cX13_w4 11 = .ok (.lor, 1) := by decide +kernel
theorem dX13_w4_12 : decode cX13_w4 12 = .ok (.lreturn, 1) := by decide +kernel
theorem BX13_w4_0 {d bc bs : Nat} {h : aH} {n : Nat} {Q : aQ} {x0 x1 x2 x3 : Int} (k : Rn d 0 0 mX13_w3 0 [some (vI x0), some (vI x1), some (vI x2)] [] h n (fun v h1 n1 => Rn (d + 1) bc bs mX13_w4 6 [some (vI x0), some (vI x1), some (vI x2), some (vI x3)] (v.toList ++ []) h1 n1 Q)) : Rn (d + 1) (bc) (bs) mX13_w4 0 [some (vI x0), some (vI x1), some (vI x2), some (vI x3)] [] h n Q := by
  refine Rn_iload_n dX13_w4_0 rfl rfl ?_
  refine Rn_iload_n dX13_w4_1 rfl rfl ?_
  refine Rn_iload_n dX13_w4_2 rfl rfl ?_
  exact Rn_callS (avs := [vI x0, vI x1, vI x2]) (st := []) (bc1 := 0) (bs1 := 0) (bc2 := bc) (bs2 := bs) fx_X13_w3 dX13_w4_3 (Or.inl wd_1523) wd_1524 rfl (Nat.le_of_ble_eq_true rfl) (Nat.le_of_ble_eq_true rfl) (by omega) (by omega) (ls1 := [some (vI x0), some (vI x1), some (vI x2)]) rfl k
theorem BX13_w4_6 {d bc bs : Nat} {h : aH} {n : Nat} {Q : aQ} {x0 x1 x2 x3 s0 : Int} (k : Q (some (vL (or64 (shl64 s0 8) x3))) h n) : Rn d (bc) (bs) mX13_w4 6 [some (vI x0), some (vI x1), some (vI x2), some (vI x3)] [vL s0] h n Q := by
  refine Rn_bipush dX13_w4_6 rfl ?_
  refine Rn_lshl dX13_w4_8 ?_
  refine Rn_iload_n dX13_w4_9 rfl rfl ?_
  refine Rn_i2l dX13_w4_10 ?_
  refine Rn_lor dX13_w4_11 ?_
  exact Rn_lreturn rfl dX13_w4_12 k
theorem dX13_w5_0 : decode cX13_w5 0 = .ok (.iload_n 0, 1) := by decide +kernel
theorem dX13_w5_1 : decode cX13_w5 1 = .ok (.iload_n 1, 1) := by decide +kernel
theorem dX13_w5_2 : decode cX13_w5 2 = .ok (.iload_n 2, 1) := by decide +kernel
theorem dX13_w5_3 : decode cX13_w5 3 = .ok (.iload_n 3, 1) := by decide +kernel
theorem dX13_w5_4 : decode cX13_w5 4 = .ok (.invokestatic 134, 3) := by decide +kernel
theorem dX13_w5_7 : decode cX13_w5 7 = .ok (.bipush 8, 2) := by decide +kernel
theorem dX13_w5_9 : decode cX13_w5 9 = .ok (.lshl, 1) := by decide +kernel
theorem dX13_w5_10 : decode cX13_w5 10 = .ok (.iload 4, 2) := by decide +kernel
theorem dX13_w5_12 : decode cX13_w5 12 = .ok (.i2l, 1) := by decide +kernel
theorem dX13_w5_13 : decode cX13_w5 13 = .ok (.lor, 1) := by decide +kernel
theorem dX13_w5_14 : decode cX13_w5 14 = .ok (.lreturn, 1) := by decide +kernel
theorem BX13_w5_0 {d bc bs : Nat} {h : aH} {n : Nat} {Q : aQ} {x0 x1 x2 x3 x4 : Int} (k : Rn d 0 0 mX13_w4 0 [some (vI x0), some (vI x1), some (vI x2), some (vI x3)] [] h n (fun v h1 n1 => Rn (d + 1) bc bs mX13_w5 7 [some (vI x0), some (vI x1), some (vI x2), some (vI x3), some (vI x4)] (v.toList ++ []) h1 n1 Q)) : Rn (d + 1) (bc) (bs) mX13_w5 0 [some (vI x0), some (vI x1), some (vI x2), some (vI x3), some (vI x4)] [] h n Q := by
  refine Rn_iload_n dX13_w5_0 rfl rfl ?_
  refine Rn_iload_n dX13_w5_1 rfl rfl ?_
  refine Rn_iload_n dX13_w5_2 rfl rfl ?_
  refine Rn_iload_n dX13_w5_3 rfl rfl ?_
  exact Rn_callS (avs := [vI x0, vI x1, vI x2, vI x3]) (st := []) (bc1 := 0) (bs1 := 0) (bc2 := bc) (bs2 := bs) fx_X13_w4 dX13_w5_4 (Or.inl wd_1520) wd_1521 rfl (Nat.le_of_ble_eq_true rfl) (Nat.le_of_ble_eq_true rfl) (by omega) (by omega) (ls1 := [some (vI x0), some (vI x1), some (vI x2), some (vI x3)]) rfl k
theorem BX13_w5_7 {d bc bs : Nat} {h : aH} {n : Nat} {Q : aQ} {x0 x1 x2 x3 x4 s0 : Int} (k : Q (some (vL (or64 (shl64 s0 8) x4))) h n) : Rn d (bc) (bs) mX13_w5 7 [some (vI x0), some (vI x1), some (vI x2), some (vI x3), some (vI x4)] [vL s0] h n Q := by
  refine Rn_bipush dX13_w5_7 rfl ?_
  refine Rn_lshl dX13_w5_9 ?_
  refine Rn_iload dX13_w5_10 rfl ?_
  refine Rn_i2l dX13_w5_12 ?_
  refine Rn_lor dX13_w5_13 ?_
  exact Rn_lreturn rfl dX13_w5_14 k
theorem dX13_w6_0 : decode cX13_w6 0 = .ok (.iload_n 0, 1) := by decide +kernel
theorem dX13_w6_1 : decode cX13_w6 1 = .ok (.iload_n 1, 1) := by decide +kernel
theorem dX13_w6_2 : decode cX13_w6 2 = .ok (.iload_n 2, 1) := by decide +kernel
theorem dX13_w6_3 : decode cX13_w6 3 = .ok (.iload_n 3, 1) := by decide +kernel
theorem dX13_w6_4 : decode cX13_w6 4 = .ok (.iload 4, 2) := by decide +kernel
theorem dX13_w6_6 : decode cX13_w6 6 = .ok (.invokestatic 138, 3) := by decide +kernel
theorem dX13_w6_9 : decode cX13_w6 9 = .ok (.bipush 8, 2) := by decide +kernel
theorem dX13_w6_11 : decode cX13_w6 11 = .ok (.lshl, 1) := by decide +kernel
theorem dX13_w6_12 : decode cX13_w6 12 = .ok (.iload 5, 2) := by decide +kernel
theorem dX13_w6_14 : decode cX13_w6 14 = .ok (.i2l, 1) := by decide +kernel
theorem dX13_w6_15 : decode cX13_w6 15 = .ok (.lor, 1) := by decide +kernel
theorem dX13_w6_16 : decode cX13_w6 16 = .ok (.lreturn, 1) := by decide +kernel
theorem BX13_w6_0 {d bc bs : Nat} {h : aH} {n : Nat} {Q : aQ} {x0 x1 x2 x3 x4 x5 : Int} (k : Rn d 0 0 mX13_w5 0 [some (vI x0), some (vI x1), some (vI x2), some (vI x3), some (vI x4)] [] h n (fun v h1 n1 => Rn (d + 1) bc bs mX13_w6 9 [some (vI x0), some (vI x1), some (vI x2), some (vI x3), some (vI x4), some (vI x5)] (v.toList ++ []) h1 n1 Q)) : Rn (d + 1) (bc) (bs) mX13_w6 0 [some (vI x0), some (vI x1), some (vI x2), some (vI x3), some (vI x4), some (vI x5)] [] h n Q := by
  refine Rn_iload_n dX13_w6_0 rfl rfl ?_
  refine Rn_iload_n dX13_w6_1 rfl rfl ?_
  refine Rn_iload_n dX13_w6_2 rfl rfl ?_
  refine Rn_iload_n dX13_w6_3 rfl rfl ?_
  refine Rn_iload dX13_w6_4 rfl ?_
  exact Rn_callS (avs := [vI x0, vI x1, vI x2, vI x3, vI x4]) (st := []) (bc1 := 0) (bs1 := 0) (bc2 := bc) (bs2 := bs) fx_X13_w5 dX13_w6_6 (Or.inl wd_1517) wd_1518 rfl (Nat.le_of_ble_eq_true rfl) (Nat.le_of_ble_eq_true rfl) (by omega) (by omega) (ls1 := [some (vI x0), some (vI x1), some (vI x2), some (vI x3), some (vI x4)]) rfl k
theorem BX13_w6_9 {d bc bs : Nat} {h : aH} {n : Nat} {Q : aQ} {x0 x1 x2 x3 x4 x5 s0 : Int} (k : Q (some (vL (or64 (shl64 s0 8) x5))) h n) : Rn d (bc) (bs) mX13_w6 9 [some (vI x0), some (vI x1), some (vI x2), some (vI x3), some (vI x4), some (vI x5)] [vL s0] h n Q := by
  refine Rn_bipush dX13_w6_9 rfl ?_
  refine Rn_lshl dX13_w6_11 ?_
  refine Rn_iload dX13_w6_12 rfl ?_
  refine Rn_i2l dX13_w6_14 ?_
  refine Rn_lor dX13_w6_15 ?_
  exact Rn_lreturn rfl dX13_w6_16 k
theorem dX13_isWord_0 : decode cX13_isWord 0 = .ok (.aload_n 0, 1) := by decide +kernel
theorem dX13_isWord_1 : decode cX13_isWord 1 = .ok (.getfield 104, 3) := by decide +kernel
theorem dX13_isWord_4 : decode cX13_isWord 4 = .ok (.iconst 2, 1) := by decide +kernel
theorem dX13_isWord_5 : decode cX13_isWord 5 = .ok (.if_icmp .ne 16, 3) := by decide +kernel
theorem dX13_isWord_8 : decode cX13_isWord 8 = .ok (.aload_n 0, 1) := by decide +kernel
theorem dX13_isWord_9 : decode cX13_isWord 9 = .ok (.getfield 117, 3) := by decide +kernel
theorem dX13_isWord_12 : decode cX13_isWord 12 = .ok (.lload_n 1, 1) := by decide +kernel
theorem dX13_isWord_13 : decode cX13_isWord 13 = .ok (.lcmp, 1) := by decide +kernel
theorem dX13_isWord_14 : decode cX13_isWord 14 = .ok (.ifCond .ne 7, 3) := by decide +kernel
theorem dX13_isWord_17 : decode cX13_isWord 17 = .ok (.iconst 1, 1) := by decide +kernel
theorem dX13_isWord_18 : decode cX13_isWord 18 = .ok (.goto 4, 3) := by decide +kernel
theorem dX13_isWord_21 : decode cX13_isWord 21 = .ok (.iconst 0, 1) := by decide +kernel
theorem dX13_isWord_22 : decode cX13_isWord 22 = .ok (.ireturn, 1) := by decide +kernel
theorem BX13_isWord_0 {d bc bs : Nat} {h : aH} {n : Nat} {Q : aQ} {ar0 : Nat} {x1 v3 : Int} {f1 : List aV} (h2 : h ar0 = cO 13 f1) (g4 : f1[9]? = some (vI v3)) (kt : v3 ≠ 2 → Rn d bc bs mX13_isWord 21 [some (vR (some ar0)), some (vL x1), none] [] h n Q) (kf : v3 = 2 → Rn d bc bs mX13_isWord 8 [some (vR (some ar0)), some (vL x1), none] [] h n Q) : Rn d (bc) (bs) mX13_isWord 0 [some (vR (some ar0)), some (vL x1), none] [] h n Q := by
  refine Rn_aload_n dX13_isWord_0 rfl rfl rfl ?_
  refine Rn_getfield (ci := 13) (k := 9) dX13_isWord_1 rfl in_13 (Nat.le_of_ble_eq_true rfl) wd_1361 rfl h2 g4 ?_
  refine Rn_iconst dX13_isWord_4 rfl ?_
  refine Rn_icmpne (tgt := 21) dX13_isWord_5 rfl ?_ ?_
  · exact kt
  · exact kf
theorem BX13_isWord_8 {d bc bs : Nat} {h : aH} {n : Nat} {Q : aQ} {ar0 : Nat} {x1 v3 : Int} {f1 : List aV} (h2 : h ar0 = cO 13 f1) (g4 : f1[11]? = some (vL v3)) (kt : v3 ≠ x1 → Rn d bc bs mX13_isWord 21 [some (vR (some ar0)), some (vL x1), none] [] h n Q) (kf : v3 = x1 → Rn d bc bs mX13_isWord 17 [some (vR (some ar0)), some (vL x1), none] [] h n Q) : Rn d (bc) (bs) mX13_isWord 8 [some (vR (some ar0)), some (vL x1), none] [] h n Q := by
  refine Rn_aload_n dX13_isWord_8 rfl rfl rfl ?_
  refine Rn_getfield (ci := 13) (k := 11) dX13_isWord_9 rfl in_13 (Nat.le_of_ble_eq_true rfl) wd_1363 rfl h2 g4 ?_
  refine Rn_lload_n dX13_isWord_12 rfl rfl ?_
  refine Rn_lcmp dX13_isWord_13 ?_
  refine Rn_ifne (tgt := 21) dX13_isWord_14 rfl ?_ ?_
  · exact fun q => kt (lc_ne q)
  · exact fun q => kf (lc_eq q)
theorem BX13_isWord_17 {d bc bs : Nat} {h : aH} {n : Nat} {Q : aQ} {r0 : Option Nat} {x1 : Int} (k : Q (some (vI 1)) h n) : Rn d (bc) (bs) mX13_isWord 17 [some (vR r0), some (vL x1), none] [] h n Q := by
  refine Rn_iconst dX13_isWord_17 rfl ?_
  refine Rn_goto (tgt := 22) dX13_isWord_18 rfl ?_
  exact Rn_zreturn rfl dX13_isWord_22 (by decide) k
theorem BX13_isWord_21 {d bc bs : Nat} {h : aH} {n : Nat} {Q : aQ} {r0 : Option Nat} {x1 : Int} (k : Q (some (vI 0)) h n) : Rn d (bc) (bs) mX13_isWord 21 [some (vR r0), some (vL x1), none] [] h n Q := by
  refine Rn_iconst dX13_isWord_21 rfl ?_
  exact Rn_zreturn rfl dX13_isWord_22 (by decide) k
theorem dX13_emit_0 : decode cX13_emit 0 = .ok (.aload_n 0, 1) := by decide +kernel
theorem dX13_emit_1 : decode cX13_emit 1 = .ok (.getfield 16, 3) := by decide +kernel
theorem dX13_emit_4 : decode cX13_emit 4 = .ok (.aload_n 0, 1) := by decide +kernel
theorem dX13_emit_5 : decode cX13_emit 5 = .ok (.getfield 142, 3) := by decide +kernel
theorem dX13_emit_8 : decode cX13_emit 8 = .ok (.bipush 97, 2) := by decide +kernel
theorem dX13_emit_10 : decode cX13_emit 10 = .ok (.iadd, 1) := by decide +kernel
theorem dX13_emit_11 : decode cX13_emit 11 = .ok (.iconst 2, 1) := by decide +kernel
theorem dX13_emit_12 : decode cX13_emit 12 = .ok (.aload_n 0, 1) := by decide +kernel
theorem dX13_emit_13 : decode cX13_emit 13 = .ok (.getfield 145, 3) := by decide +kernel
theorem dX13_emit_16 : decode cX13_emit 16 = .ok (.imul, 1) := by decide +kernel
theorem dX13_emit_17 : decode cX13_emit 17 = .ok (.iadd, 1) := by decide +kernel
theorem dX13_emit_18 : decode cX13_emit 18 = .ok (.iload_n 1, 1) := by decide +kernel
theorem dX13_emit_19 : decode cX13_emit 19 = .ok (.iastore, 1) := by decide +kernel
theorem dX13_emit_20 : decode cX13_emit 20 = .ok (.aload_n 0, 1) := by decide +kernel
theorem dX13_emit_21 : decode cX13_emit 21 = .ok (.getfield 16, 3) := by decide +kernel
theorem dX13_emit_24 : decode cX13_emit 24 = .ok (.aload_n 0, 1) := by decide +kernel
theorem dX13_emit_25 : decode cX13_emit 25 = .ok (.getfield 142, 3) := by decide +kernel
theorem dX13_emit_28 : decode cX13_emit 28 = .ok (.bipush 97, 2) := by decide +kernel
theorem dX13_emit_30 : decode cX13_emit 30 = .ok (.iadd, 1) := by decide +kernel
theorem dX13_emit_31 : decode cX13_emit 31 = .ok (.iconst 2, 1) := by decide +kernel
theorem dX13_emit_32 : decode cX13_emit 32 = .ok (.aload_n 0, 1) := by decide +kernel
theorem dX13_emit_33 : decode cX13_emit 33 = .ok (.getfield 145, 3) := by decide +kernel
theorem dX13_emit_36 : decode cX13_emit 36 = .ok (.imul, 1) := by decide +kernel
theorem dX13_emit_37 : decode cX13_emit 37 = .ok (.iadd, 1) := by decide +kernel
theorem dX13_emit_38 : decode cX13_emit 38 = .ok (.iconst 1, 1) := by decide +kernel
theorem dX13_emit_39 : decode cX13_emit 39 = .ok (.iadd, 1) := by decide +kernel
theorem dX13_emit_40 : decode cX13_emit 40 = .ok (.iload_n 2, 1) := by decide +kernel
theorem dX13_emit_41 : decode cX13_emit 41 = .ok (.iastore, 1) := by decide +kernel
theorem dX13_emit_42 : decode cX13_emit 42 = .ok (.aload_n 0, 1) := by decide +kernel
theorem dX13_emit_43 : decode cX13_emit 43 = .ok (.dup, 1) := by decide +kernel
theorem dX13_emit_44 : decode cX13_emit 44 = .ok (.getfield 145, 3) := by decide +kernel
theorem dX13_emit_47 : decode cX13_emit 47 = .ok (.iconst 1, 1) := by decide +kernel
theorem dX13_emit_48 : decode cX13_emit 48 = .ok (.iadd, 1) := by decide +kernel
theorem dX13_emit_49 : decode cX13_emit 49 = .ok (.putfield 145, 3) := by decide +kernel
theorem dX13_emit_52 : decode cX13_emit 52 = .ok (.return_, 1) := by decide +kernel
theorem BX13_emit_0 {d bc bs : Nat} {h : aH} {n : Nat} {Q : aQ} {ar0 at3 : Nat} {x1 x2 v5 v8 : Int} {f1 : List aV} {w12 : List Int} (h2 : h ar0 = cO 13 f1) (g4 : f1[2]? = some (vR (some at3))) (g6 : f1[12]? = some (vI v5)) (b7 : -2147483648 ≤ v5 + 97 ∧ v5 + 97 < 2147483648) (g9 : f1[13]? = some (vI v8)) (b10 : -2147483648 ≤ 2 * v8 ∧ 2 * v8 < 2147483648) (b11 : -2147483648 ≤ (v5 + 97) + (2 * v8) ∧ (v5 + 97) + (2 * v8) < 2147483648) (h13 : h at3 = cI w12) (i14 : 0 ≤ (v5 + 97) + (2 * v8)) (j15 : (v5 + 97) + (2 * v8) < w12.length) (z16 : at3 ≠ 0) (k : Rn d bc bs mX13_emit 20 [some (vR (some ar0)), some (vI x1), some (vI x2)] [] (up h at3 (cI (w12.set ((v5 + 97) + (2 * v8) : Int).toNat x1))) n Q) : Rn d (bc) (bs) mX13_emit 0 [some (vR (some ar0)), some (vI x1), some (vI x2)] [] h n Q := by
  refine Rn_aload_n dX13_emit_0 rfl rfl rfl ?_
  refine Rn_getfield (ci := 13) (k := 2) dX13_emit_1 rfl in_13 (Nat.le_of_ble_eq_true rfl) wd_1354 rfl h2 g4 ?_
  refine Rn_aload_n dX13_emit_4 rfl rfl rfl ?_
  refine Rn_getfield (ci := 13) (k := 12) dX13_emit_5 rfl in_13 (Nat.le_of_ble_eq_true rfl) wd_1364 rfl h2 g6 ?_
  refine Rn_bipush dX13_emit_8 rfl ?_
  refine Rn_iadd dX13_emit_10 ?_
  rw [w32_id b7.1 b7.2]
  refine Rn_iconst dX13_emit_11 rfl ?_
  refine Rn_aload_n dX13_emit_12 rfl rfl rfl ?_
  refine Rn_getfield (ci := 13) (k := 13) dX13_emit_13 rfl in_13 (Nat.le_of_ble_eq_true rfl) wd_1365 rfl h2 g9 ?_
  refine Rn_imul dX13_emit_16 ?_
  rw [w32_id b10.1 b10.2]
  refine Rn_iadd dX13_emit_17 ?_
  rw [w32_id b11.1 b11.2]
  refine Rn_iload_n dX13_emit_18 rfl rfl ?_
  refine Rn_iastore dX13_emit_19 z16 h13 i14 j15 ?_
  exact k
theorem BX13_emit_20 {d bc bs : Nat} {h : aH} {n : Nat} {Q : aQ} {ar0 at3 : Nat} {x1 x2 v5 v8 : Int} {f1 : List aV} {w13 : List Int} (h2 : h ar0 = cO 13 f1) (g4 : f1[2]? = some (vR (some at3))) (g6 : f1[12]? = some (vI v5)) (b7 : -2147483648 ≤ v5 + 97 ∧ v5 + 97 < 2147483648) (g9 : f1[13]? = some (vI v8)) (b10 : -2147483648 ≤ 2 * v8 ∧ 2 * v8 < 2147483648) (b11 : -2147483648 ≤ (v5 + 97) + (2 * v8) ∧ (v5 + 97) + (2 * v8) < 2147483648) (b12 : -2147483648 ≤ ((v5 + 97) + (2 * v8)) + 1 ∧ ((v5 + 97) + (2 * v8)) + 1 < 2147483648) (h14 : h at3 = cI w13) (i15 : 0 ≤ ((v5 + 97) + (2 * v8)) + 1) (j16 : ((v5 + 97) + (2 * v8)) + 1 < w13.length) (z17 : at3 ≠ 0) (k : Rn d bc bs mX13_emit 42 [some (vR (some ar0)), some (vI x1), some (vI x2)] [] (up h at3 (cI (w13.set (((v5 + 97) + (2 * v8)) + 1 : Int).toNat x2))) n Q) : Rn d (bc) (bs) mX13_emit 20 [some (vR (some ar0)), some (vI x1), some (vI x2)] [] h n Q := by
  refine Rn_aload_n dX13_emit_20 rfl rfl rfl ?_
  refine Rn_getfield (ci := 13) (k := 2) dX13_emit_21 rfl in_13 (Nat.le_of_ble_eq_true rfl) wd_1354 rfl h2 g4 ?_
  refine Rn_aload_n dX13_emit_24 rfl rfl rfl ?_
  refine Rn_getfield (ci := 13) (k := 12) dX13_emit_25 rfl in_13 (Nat.le_of_ble_eq_true rfl) wd_1364 rfl h2 g6 ?_
  refine Rn_bipush dX13_emit_28 rfl ?_
  refine Rn_iadd dX13_emit_30 ?_
  rw [w32_id b7.1 b7.2]
  refine Rn_iconst dX13_emit_31 rfl ?_
  refine Rn_aload_n dX13_emit_32 rfl rfl rfl ?_
  refine Rn_getfield (ci := 13) (k := 13) dX13_emit_33 rfl in_13 (Nat.le_of_ble_eq_true rfl) wd_1365 rfl h2 g9 ?_
  refine Rn_imul dX13_emit_36 ?_
  rw [w32_id b10.1 b10.2]
  refine Rn_iadd dX13_emit_37 ?_
  rw [w32_id b11.1 b11.2]
  refine Rn_iconst dX13_emit_38 rfl ?_
  refine Rn_iadd dX13_emit_39 ?_
  rw [w32_id b12.1 b12.2]
  refine Rn_iload_n dX13_emit_40 rfl rfl ?_
  refine Rn_iastore dX13_emit_41 z17 h14 i15 j16 ?_
  exact k
theorem BX13_emit_42 {d bc bs : Nat} {h : aH} {n : Nat} {Q : aQ} {ar0 : Nat} {x1 x2 v3 : Int} {f1 : List aV} (h2 : h ar0 = cO 13 f1) (g4 : f1[13]? = some (vI v3)) (b5 : -2147483648 ≤ v3 + 1 ∧ v3 + 1 < 2147483648) (m6 : 13 < f1.length) (k : Rn d bc bs mX13_emit 52 [some (vR (some ar0)), some (vI x1), some (vI x2)] [] (up h ar0 (cO 13 (f1.set 13 (vI (v3 + 1))))) n Q) : Rn d (bc) (bs) mX13_emit 42 [some (vR (some ar0)), some (vI x1), some (vI x2)] [] h n Q := by
  refine Rn_aload_n dX13_emit_42 rfl rfl rfl ?_
  refine Rn_dup dX13_emit_43 rfl ?_
  refine Rn_getfield (ci := 13) (k := 13) dX13_emit_44 rfl in_13 (Nat.le_of_ble_eq_true rfl) wd_1365 rfl h2 g4 ?_
  refine Rn_iconst dX13_emit_47 rfl ?_
  refine Rn_iadd dX13_emit_48 ?_
  rw [w32_id b5.1 b5.2]
  refine Rn_putfield (ci := 13) (k := 13) dX13_emit_49 rfl in_13 tyX13_ok nmX13 (Nat.le_of_ble_eq_true rfl) wd_1365 rfl (Or.inl rfl) trivial m6 h2 ?_
  exact k
theorem BX13_emit_52 {d bc bs : Nat} {h : aH} {n : Nat} {Q : aQ} {r0 : Option Nat} {x1 x2 : Int} (k : Q none h n) : Rn d (bc) (bs) mX13_emit 52 [some (vR r0), some (vI x1), some (vI x2)] [] h n Q := by
  exact Rn_return rfl dX13_emit_52 k
theorem dX13_isCurrent_0 : decode cX13_isCurrent 0 = .ok (.aload_n 0, 1) := by decide +kernel
theorem dX13_isCurrent_1 : decode cX13_isCurrent 1 = .ok (.getfield 104, 3) := by decide +kernel
theorem dX13_isCurrent_4 : decode cX13_isCurrent 4 = .ok (.iconst 2, 1) := by decide +kernel
theorem dX13_isCurrent_5 : decode cX13_isCurrent 5 = .ok (.if_icmp .ne 124, 3) := by decide +kernel
theorem dX13_isCurrent_8 : decode cX13_isCurrent 8 = .ok (.aload_n 0, 1) := by decide +kernel
theorem dX13_isCurrent_9 : decode cX13_isCurrent 9 = .ok (.getfield 94, 3) := by decide +kernel
theorem dX13_isCurrent_12 : decode cX13_isCurrent 12 = .ok (.aload_n 0, 1) := by decide +kernel
theorem dX13_isCurrent_13 : decode cX13_isCurrent 13 = .ok (.getfield 101, 3) := by decide +kernel
theorem dX13_isCurrent_16 : decode cX13_isCurrent 16 = .ok (.isub, 1) := by decide +kernel
theorem dX13_isCurrent_17 : decode cX13_isCurrent 17 = .ok (.bipush 7, 2) := by decide +kernel
theorem dX13_isCurrent_19 : decode cX13_isCurrent 19 = .ok (.if_icmp .ne 110, 3) := by decide +kernel
theorem dX13_isCurrent_22 : decode cX13_isCurrent 22 = .ok (.aload_n 0, 1) := by decide +kernel
theorem dX13_isCurrent_23 : decode cX13_isCurrent 23 = .ok (.aload_n 0, 1) := by decide +kernel
theorem dX13_isCurrent_24 : decode cX13_isCurrent 24 = .ok (.getfield 101, 3) := by decide +kernel
theorem dX13_isCurrent_27 : decode cX13_isCurrent 27 = .ok (.invokevirtual 97, 3) := by decide +kernel
theorem dX13_isCurrent_30 : decode cX13_isCurrent 30 = .ok (.aload_n 0, 1) := by decide +kernel
theorem dX13_isCurrent_31 : decode cX13_isCurrent 31 = .ok (.aload_n 0, 1) := by decide +kernel
theorem dX13_isCurrent_32 : decode cX13_isCurrent 32 = .ok (.getfield 101, 3) := by decide +kernel
theorem dX13_isCurrent_35 : decode cX13_isCurrent 35 = .ok (.iconst 1, 1) := by decide +kernel
theorem dX13_isCurrent_36 : decode cX13_isCurrent 36 = .ok (.iadd, 1) := by decide +kernel
theorem dX13_isCurrent_37 : decode cX13_isCurrent 37 = .ok (.invokevirtual 97, 3) := by decide +kernel
theorem dX13_isCurrent_40 : decode cX13_isCurrent 40 = .ok (.aload_n 0, 1) := by decide +kernel
theorem dX13_isCurrent_41 : decode cX13_isCurrent 41 = .ok (.aload_n 0, 1) := by decide +kernel
theorem dX13_isCurrent_42 : decode cX13_isCurrent 42 = .ok (.getfield 101, 3) := by decide +kernel
theorem dX13_isCurrent_45 : decode cX13_isCurrent 45 = .ok (.iconst 2, 1) := by decide +kernel
theorem dX13_isCurrent_46 : decode cX13_isCurrent 46 = .ok (.iadd, 1) := by decide +kernel
theorem dX13_isCurrent_47 : decode cX13_isCurrent 47 = .ok (.invokevirtual 97, 3) := by decide +kernel
theorem dX13_isCurrent_50 : decode cX13_isCurrent 50 = .ok (.aload_n 0, 1) := by decide +kernel
theorem dX13_isCurrent_51 : decode cX13_isCurrent 51 = .ok (.aload_n 0, 1) := by decide +kernel
theorem dX13_isCurrent_52 : decode cX13_isCurrent 52 = .ok (.getfield 101, 3) := by decide +kernel
theorem dX13_isCurrent_55 : decode cX13_isCurrent 55 = .ok (.iconst 3, 1) := by decide +kernel
theorem dX13_isCurrent_56 : decode cX13_isCurrent 56 = .ok (.iadd, 1) := by decide +kernel
theorem dX13_isCurrent_57 : decode cX13_isCurrent 57 = .ok (.invokevirtual 97, 3) := by decide +kernel
theorem dX13_isCurrent_60 : decode cX13_isCurrent 60 = .ok (.invokestatic 134, 3) := by decide +kernel
theorem dX13_isCurrent_63 : decode cX13_isCurrent 63 = .ok (.bipush 99, 2) := by decide +kernel
theorem dX13_isCurrent_65 : decode cX13_isCurrent 65 = .ok (.bipush 117, 2) := by decide +kernel
theorem dX13_isCurrent_67 : decode cX13_isCurrent 67 = .ok (.bipush 114, 2) := by decide +kernel
theorem dX13_isCurrent_69 : decode cX13_isCurrent 69 = .ok (.bipush 114, 2) := by decide +kernel
theorem dX13_isCurrent_71 : decode cX13_isCurrent 71 = .ok (.invokestatic 134, 3) := by decide +kernel
theorem dX13_isCurrent_74 : decode cX13_isCurrent 74 = .ok (.lcmp, 1) := by decide +kernel
theorem dX13_isCurrent_75 : decode cX13_isCurrent 75 = .ok (.ifCond .ne 54, 3) := by decide +kernel
theorem dX13_isCurrent_78 : decode cX13_isCurrent 78 = .ok (.aload_n 0, 1) := by decide +kernel
theorem dX13_isCurrent_79 : decode cX13_isCurrent 79 = .ok (.aload_n 0, 1) := by decide +kernel
theorem dX13_isCurrent_80 : decode cX13_isCurrent 80 = .ok (.getfield 101, 3) := by decide +kernel
theorem dX13_isCurrent_83 : decode cX13_isCurrent 83 = .ok (.iconst 4, 1) := by decide +kernel
theorem dX13_isCurrent_84 : decode cX13_isCurrent 84 = .ok (.iadd, 1) := by decide +kernel
theorem dX13_isCurrent_85 : decode cX13_isCurrent 85 = .ok (.invokevirtual 97, 3) := by decide +kernel
theorem dX13_isCurrent_88 : decode cX13_isCurrent 88 = .ok (.aload_n 0, 1) := by decide +kernel
theorem dX13_isCurrent_89 : decode cX13_isCurrent 89 = .ok (.aload_n 0, 1) := by decide +kernel
theorem dX13_isCurrent_90 : decode cX13_isCurrent 90 = .ok (.getfield 101, 3) := by decide +kernel
theorem dX13_isCurrent_93 : decode cX13_isCurrent 93 = .ok (.iconst 5, 1) := by decide +kernel
theorem dX13_isCurrent_94 : decode cX13_isCurrent 94 = .ok (.iadd, 1) := by decide +kernel
theorem dX13_isCurrent_95 : decode cX13_isCurrent 95 = .ok (.invokevirtual 97, 3) := by decide +kernel
theorem dX13_isCurrent_98 : decode cX13_isCurrent 98 = .ok (.aload_n 0, 1) := by decide +kernel
theorem dX13_isCurrent_99 : decode cX13_isCurrent 99 = .ok (.aload_n 0, 1) := by decide +kernel
theorem dX13_isCurrent_100 : decode cX13_isCurrent 100 = .ok (.getfield 101, 3) := by decide +kernel
theorem dX13_isCurrent_103 : decode cX13_isCurrent 103 = .ok (.bipush 6, 2) := by decide +kernel
theorem dX13_isCurrent_105 : decode cX13_isCurrent 105 = .ok (.iadd, 1) := by decide +kernel
theorem dX13_isCurrent_106 : decode cX13_isCurrent 106 = .ok (.invokevirtual 97, 3) := by decide +kernel
theorem dX13_isCurrent_109 : decode cX13_isCurrent 109 = .ok (.invokestatic 130, 3) := by decide +kernel
theorem dX13_isCurrent_112 : decode cX13_isCurrent 112 = .ok (.bipush 101, 2) := by decide +kernel
theorem dX13_isCurrent_114 : decode cX13_isCurrent 114 = .ok (.bipush 110, 2) := by decide +kernel
theorem dX13_isCurrent_116 : decode cX13_isCurrent 116 = .ok (.bipush 116, 2) := by decide +kernel
theorem dX13_isCurrent_118 : decode cX13_isCurrent 118 = .ok (.invokestatic 130, 3) := by decide +kernel
theorem dX13_isCurrent_121 : decode cX13_isCurrent 121 = .ok (.lcmp, 1) := by decide +kernel
theorem dX13_isCurrent_122 : decode cX13_isCurrent 122 = .ok (.ifCond .ne 7, 3) := by decide +kernel
theorem dX13_isCurrent_125 : decode cX13_isCurrent 125 = .ok (.iconst 1, 1) := by decide +kernel
theorem dX13_isCurrent_126 : decode cX13_isCurrent 126 = .ok (.goto 4, 3) := by decide +kernel
theorem dX13_isCurrent_129 : decode cX13_isCurrent 129 = .ok (.iconst 0, 1) := by decide +kernel
theorem dX13_isCurrent_130 : decode cX13_isCurrent 130 = .ok (.ireturn, 1) := by decide +kernel
theorem BX13_isCurrent_0 {d bc bs : Nat} {h : aH} {n : Nat} {Q : aQ} {ar0 : Nat} {f1 : List aV} {v3 : Int} (h2 : h ar0 = cO 13 f1) (g4 : f1[9]? = some (vI v3)) (kt : v3 ≠ 2 → Rn d bc bs mX13_isCurrent 129 [some (vR (some ar0))] [] h n Q) (kf : v3 = 2 → Rn d bc bs mX13_isCurrent 8 [some (vR (some ar0))] [] h n Q) : Rn d (bc) (bs) mX13_isCurrent 0 [some (vR (some ar0))] [] h n Q := by
  refine Rn_aload_n dX13_isCurrent_0 rfl rfl rfl ?_
  refine Rn_getfield (ci := 13) (k := 9) dX13_isCurrent_1 rfl in_13 (Nat.le_of_ble_eq_true rfl) wd_1361 rfl h2 g4 ?_
  refine Rn_iconst dX13_isCurrent_4 rfl ?_
  refine Rn_icmpne (tgt := 129) dX13_isCurrent_5 rfl ?_ ?_
  · exact kt
  · exact kf
theorem BX13_isCurrent_8 {d bc bs : Nat} {h : aH} {n : Nat} {Q : aQ} {ar0 : Nat} {f1 : List aV} {v3 v5 : Int} (h2 : h ar0 = cO 13 f1) (g4 : f1[7]? = some (vI v3)) (g6 : f1[8]? = some (vI v5)) (b7 : -2147483648 ≤ v3 - v5 ∧ v3 - v5 < 2147483648) (kt : (v3 - v5) ≠ 7 → Rn d bc bs mX13_isCurrent 129 [some (vR (some ar0))] [] h n Q) (kf : (v3 - v5) = 7 → Rn d bc bs mX13_isCurrent 22 [some (vR (some ar0))] [] h n Q) : Rn d (bc) (bs) mX13_isCurrent 8 [some (vR (some ar0))] [] h n Q := by
  refine Rn_aload_n dX13_isCurrent_8 rfl rfl rfl ?_
  refine Rn_getfield (ci := 13) (k := 7) dX13_isCurrent_9 rfl in_13 (Nat.le_of_ble_eq_true rfl) wd_1359 rfl h2 g4 ?_
  refine Rn_aload_n dX13_isCurrent_12 rfl rfl rfl ?_
  refine Rn_getfield (ci := 13) (k := 8) dX13_isCurrent_13 rfl in_13 (Nat.le_of_ble_eq_true rfl) wd_1360 rfl h2 g6 ?_
  refine Rn_isub dX13_isCurrent_16 ?_
  rw [w32_id b7.1 b7.2]
  refine Rn_bipush dX13_isCurrent_17 rfl ?_
  refine Rn_icmpne (tgt := 129) dX13_isCurrent_19 rfl ?_ ?_
  · exact kt
  · exact kf
theorem BX13_isCurrent_22 {d bc bs : Nat} {h : aH} {n : Nat} {Q : aQ} {ar0 : Nat} {f1 : List aV} {v3 : Int} (h2 : h ar0 = cO 13 f1) (g4 : f1[8]? = some (vI v3)) (k : Rn d 0 0 mX13_byteAt 0 [some (vR (some ar0)), some (vI v3)] [] h n (fun v h1 n1 => Rn (d + 1) bc bs mX13_isCurrent 30 [some (vR (some ar0))] (v.toList ++ []) h1 n1 Q)) : Rn (d + 1) (bc) (bs) mX13_isCurrent 22 [some (vR (some ar0))] [] h n Q := by
  refine Rn_aload_n dX13_isCurrent_22 rfl rfl rfl ?_
  refine Rn_aload_n dX13_isCurrent_23 rfl rfl rfl ?_
  refine Rn_getfield (ci := 13) (k := 8) dX13_isCurrent_24 rfl in_13 (Nat.le_of_ble_eq_true rfl) wd_1360 rfl h2 g4 ?_
  exact Rn_callV (ci := 13) (avs := [vI v3]) (st := []) (bc1 := 0) (bs1 := 0) (bc2 := bc) (bs2 := bs) fx_X13_byteAt dX13_isCurrent_27 wd_1494 wd_1496 wd_48 rfl h2 rfl (Nat.le_of_ble_eq_true rfl) (Nat.le_of_ble_eq_true rfl) (by omega) (by omega) (ls1 := [some (vR (some ar0)), some (vI v3)]) rfl k
theorem BX13_isCurrent_30 {d bc bs : Nat} {h : aH} {n : Nat} {Q : aQ} {ar0 : Nat} {s0 v3 : Int} {f1 : List aV} (h2 : h ar0 = cO 13 f1) (g4 : f1[8]? = some (vI v3)) (b5 : -2147483648 ≤ v3 + 1 ∧ v3 + 1 < 2147483648) (k : Rn d 0 0 mX13_byteAt 0 [some (vR (some ar0)), some (vI (v3 + 1))] [] h n (fun v h1 n1 => Rn (d + 1) bc bs mX13_isCurrent 40 [some (vR (some ar0))] (v.toList ++ [vI s0]) h1 n1 Q)) : Rn (d + 1) (bc) (bs) mX13_isCurrent 30 [some (vR (some ar0))] [vI s0] h n Q := by
  refine Rn_aload_n dX13_isCurrent_30 rfl rfl rfl ?_
  refine Rn_aload_n dX13_isCurrent_31 rfl rfl rfl ?_
  refine Rn_getfield (ci := 13) (k := 8) dX13_isCurrent_32 rfl in_13 (Nat.le_of_ble_eq_true rfl) wd_1360 rfl h2 g4 ?_
  refine Rn_iconst dX13_isCurrent_35 rfl ?_
  refine Rn_iadd dX13_isCurrent_36 ?_
  rw [w32_id b5.1 b5.2]
  exact Rn_callV (ci := 13) (avs := [vI (v3 + 1)]) (st := [vI s0]) (bc1 := 0) (bs1 := 0) (bc2 := bc) (bs2 := bs) fx_X13_byteAt dX13_isCurrent_37 wd_1494 wd_1496 wd_48 rfl h2 rfl (Nat.le_of_ble_eq_true rfl) (Nat.le_of_ble_eq_true rfl) (by omega) (by omega) (ls1 := [some (vR (some ar0)), some (vI (v3 + 1))]) rfl k
theorem BX13_isCurrent_40 {d bc bs : Nat} {h : aH} {n : Nat} {Q : aQ} {ar0 : Nat} {s0 s1 v3 : Int} {f1 : List aV} (h2 : h ar0 = cO 13 f1) (g4 : f1[8]? = some (vI v3)) (b5 : -2147483648 ≤ v3 + 2 ∧ v3 + 2 < 2147483648) (k : Rn d 0 0 mX13_byteAt 0 [some (vR (some ar0)), some (vI (v3 + 2))] [] h n (fun v h1 n1 => Rn (d + 1) bc bs mX13_isCurrent 50 [some (vR (some ar0))] (v.toList ++ [vI s1, vI s0]) h1 n1 Q)) : Rn (d + 1) (bc) (bs) mX13_isCurrent 40 [some (vR (some ar0))] [vI s1, vI s0] h n Q := by
  refine Rn_aload_n dX13_isCurrent_40 rfl rfl rfl ?_
  refine Rn_aload_n dX13_isCurrent_41 rfl rfl rfl ?_
  refine Rn_getfield (ci := 13) (k := 8) dX13_isCurrent_42 rfl in_13 (Nat.le_of_ble_eq_true rfl) wd_1360 rfl h2 g4 ?_
  refine Rn_iconst dX13_isCurrent_45 rfl ?_
  refine Rn_iadd dX13_isCurrent_46 ?_
  rw [w32_id b5.1 b5.2]
  exact Rn_callV (ci := 13) (avs := [vI (v3 + 2)]) (st := [vI s1, vI s0]) (bc1 := 0) (bs1 := 0) (bc2 := bc) (bs2 := bs) fx_X13_byteAt dX13_isCurrent_47 wd_1494 wd_1496 wd_48 rfl h2 rfl (Nat.le_of_ble_eq_true rfl) (Nat.le_of_ble_eq_true rfl) (by omega) (by omega) (ls1 := [some (vR (some ar0)), some (vI (v3 + 2))]) rfl k
theorem BX13_isCurrent_50 {d bc bs : Nat} {h : aH} {n : Nat} {Q : aQ} {ar0 : Nat} {s0 s1 s2 v3 : Int} {f1 : List aV} (h2 : h ar0 = cO 13 f1) (g4 : f1[8]? = some (vI v3)) (b5 : -2147483648 ≤ v3 + 3 ∧ v3 + 3 < 2147483648) (k : Rn d 0 0 mX13_byteAt 0 [some (vR (some ar0)), some (vI (v3 + 3))] [] h n (fun v h1 n1 => Rn (d + 1) bc bs mX13_isCurrent 60 [some (vR (some ar0))] (v.toList ++ [vI s2, vI s1, vI s0]) h1 n1 Q)) : Rn (d + 1) (bc) (bs) mX13_isCurrent 50 [some (vR (some ar0))] [vI s2, vI s1, vI s0] h n Q := by
  refine Rn_aload_n dX13_isCurrent_50 rfl rfl rfl ?_
  refine Rn_aload_n dX13_isCurrent_51 rfl rfl rfl ?_
  refine Rn_getfield (ci := 13) (k := 8) dX13_isCurrent_52 rfl in_13 (Nat.le_of_ble_eq_true rfl) wd_1360 rfl h2 g4 ?_
  refine Rn_iconst dX13_isCurrent_55 rfl ?_
  refine Rn_iadd dX13_isCurrent_56 ?_
  rw [w32_id b5.1 b5.2]
  exact Rn_callV (ci := 13) (avs := [vI (v3 + 3)]) (st := [vI s2, vI s1, vI s0]) (bc1 := 0) (bs1 := 0) (bc2 := bc) (bs2 := bs) fx_X13_byteAt dX13_isCurrent_57 wd_1494 wd_1496 wd_48 rfl h2 rfl (Nat.le_of_ble_eq_true rfl) (Nat.le_of_ble_eq_true rfl) (by omega) (by omega) (ls1 := [some (vR (some ar0)), some (vI (v3 + 3))]) rfl k
theorem BX13_isCurrent_60 {d bc bs : Nat} {h : aH} {n : Nat} {Q : aQ} {r0 : Option Nat} {s0 s1 s2 s3 : Int} (k : Rn d 0 0 mX13_w4 0 [some (vI s0), some (vI s1), some (vI s2), some (vI s3)] [] h n (fun v h1 n1 => Rn (d + 1) bc bs mX13_isCurrent 63 [some (vR r0)] (v.toList ++ []) h1 n1 Q)) : Rn (d + 1) (bc) (bs) mX13_isCurrent 60 [some (vR r0)] [vI s3, vI s2, vI s1, vI s0] h n Q := by
  exact Rn_callS (avs := [vI s0, vI s1, vI s2, vI s3]) (st := []) (bc1 := 0) (bs1 := 0) (bc2 := bc) (bs2 := bs) fx_X13_w4 dX13_isCurrent_60 (Or.inl wd_1520) wd_1521 rfl (Nat.le_of_ble_eq_true rfl) (Nat.le_of_ble_eq_true rfl) (by omega) (by omega) (ls1 := [some (vI s0), some (vI s1), some (vI s2), some (vI s3)]) rfl k
theorem BX13_isCurrent_63 {d bc bs : Nat} {h : aH} {n : Nat} {Q : aQ} {r0 : Option Nat} {s0 : Int} (k : Rn d 0 0 mX13_w4 0 [some (vI 99), some (vI 117), some (vI 114), some (vI 114)] [] h n (fun v h1 n1 => Rn (d + 1) bc bs mX13_isCurrent 74 [some (vR r0)] (v.toList ++ [vL s0]) h1 n1 Q)) : Rn (d + 1) (bc) (bs) mX13_isCurrent 63 [some (vR r0)] [vL s0] h n Q := by
  refine Rn_bipush dX13_isCurrent_63 rfl ?_
  refine Rn_bipush dX13_isCurrent_65 rfl ?_
  refine Rn_bipush dX13_isCurrent_67 rfl ?_
  refine Rn_bipush dX13_isCurrent_69 rfl ?_
  exact Rn_callS (avs := [vI 99, vI 117, vI 114, vI 114]) (st := [vL s0]) (bc1 := 0) (bs1 := 0) (bc2 := bc) (bs2 := bs) fx_X13_w4 dX13_isCurrent_71 (Or.inl wd_1520) wd_1521 rfl (Nat.le_of_ble_eq_true rfl) (Nat.le_of_ble_eq_true rfl) (by omega) (by omega) (ls1 := [some (vI 99), some (vI 117), some (vI 114), some (vI 114)]) rfl k
theorem BX13_isCurrent_74 {d bc bs : Nat} {h : aH} {n : Nat} {Q : aQ} {r0 : Option Nat} {s0 s1 : Int} (kt : s0 ≠ s1 → Rn d bc bs mX13_isCurrent 129 [some (vR r0)] [] h n Q) (kf : s0 = s1 → Rn d bc bs mX13_isCurrent 78 [some (vR r0)] [] h n Q) : Rn d (bc) (bs) mX13_isCurrent 74 [some (vR r0)] [vL s1, vL s0] h n Q := by
  refine Rn_lcmp dX13_isCurrent_74 ?_
  refine Rn_ifne (tgt := 129) dX13_isCurrent_75 rfl ?_ ?_
  · exact fun q => kt (lc_ne q)
  · exact fun q => kf (lc_eq q)
theorem BX13_isCurrent_78 {d bc bs : Nat} {h : aH} {n : Nat} {Q : aQ} {ar0 : Nat} {f1 : List aV} {v3 : Int} (h2 : h ar0 = cO 13 f1) (g4 : f1[8]? = some (vI v3)) (b5 : -2147483648 ≤ v3 + 4 ∧ v3 + 4 < 2147483648) (k : Rn d 0 0 mX13_byteAt 0 [some (vR (some ar0)), some (vI (v3 + 4))] [] h n (fun v h1 n1 => Rn (d + 1) bc bs mX13_isCurrent 88 [some (vR (some ar0))] (v.toList ++ []) h1 n1 Q)) : Rn (d + 1) (bc) (bs) mX13_isCurrent 78 [some (vR (some ar0))] [] h n Q := by
  refine Rn_aload_n dX13_isCurrent_78 rfl rfl rfl ?_
  refine Rn_aload_n dX13_isCurrent_79 rfl rfl rfl ?_
  refine Rn_getfield (ci := 13) (k := 8) dX13_isCurrent_80 rfl in_13 (Nat.le_of_ble_eq_true rfl) wd_1360 rfl h2 g4 ?_
  refine Rn_iconst dX13_isCurrent_83 rfl ?_
  refine Rn_iadd dX13_isCurrent_84 ?_
  rw [w32_id b5.1 b5.2]
  exact Rn_callV (ci := 13) (avs := [vI (v3 + 4)]) (st := []) (bc1 := 0) (bs1 := 0) (bc2 := bc) (bs2 := bs) fx_X13_byteAt dX13_isCurrent_85 wd_1494 wd_1496 wd_48 rfl h2 rfl (Nat.le_of_ble_eq_true rfl) (Nat.le_of_ble_eq_true rfl) (by omega) (by omega) (ls1 := [some (vR (some ar0)), some (vI (v3 + 4))]) rfl k
theorem BX13_isCurrent_88 {d bc bs : Nat} {h : aH} {n : Nat} {Q : aQ} {ar0 : Nat} {s0 v3 : Int} {f1 : List aV} (h2 : h ar0 = cO 13 f1) (g4 : f1[8]? = some (vI v3)) (b5 : -2147483648 ≤ v3 + 5 ∧ v3 + 5 < 2147483648) (k : Rn d 0 0 mX13_byteAt 0 [some (vR (some ar0)), some (vI (v3 + 5))] [] h n (fun v h1 n1 => Rn (d + 1) bc bs mX13_isCurrent 98 [some (vR (some ar0))] (v.toList ++ [vI s0]) h1 n1 Q)) : Rn (d + 1) (bc) (bs) mX13_isCurrent 88 [some (vR (some ar0))] [vI s0] h n Q := by
  refine Rn_aload_n dX13_isCurrent_88 rfl rfl rfl ?_
  refine Rn_aload_n dX13_isCurrent_89 rfl rfl rfl ?_
  refine Rn_getfield (ci := 13) (k := 8) dX13_isCurrent_90 rfl in_13 (Nat.le_of_ble_eq_true rfl) wd_1360 rfl h2 g4 ?_
  refine Rn_iconst dX13_isCurrent_93 rfl ?_
  refine Rn_iadd dX13_isCurrent_94 ?_
  rw [w32_id b5.1 b5.2]
  exact Rn_callV (ci := 13) (avs := [vI (v3 + 5)]) (st := [vI s0]) (bc1 := 0) (bs1 := 0) (bc2 := bc) (bs2 := bs) fx_X13_byteAt dX13_isCurrent_95 wd_1494 wd_1496 wd_48 rfl h2 rfl (Nat.le_of_ble_eq_true rfl) (Nat.le_of_ble_eq_true rfl) (by omega) (by omega) (ls1 := [some (vR (some ar0)), some (vI (v3 + 5))]) rfl k
theorem BX13_isCurrent_98 {d bc bs : Nat} {h : aH} {n : Nat} {Q : aQ} {ar0 : Nat} {s0 s1 v3 : Int} {f1 : List aV} (h2 : h ar0 = cO 13 f1) (g4 : f1[8]? = some (vI v3)) (b5 : -2147483648 ≤ v3 + 6 ∧ v3 + 6 < 2147483648) (k : Rn d 0 0 mX13_byteAt 0 [some (vR (some ar0)), some (vI (v3 + 6))] [] h n (fun v h1 n1 => Rn (d + 1) bc bs mX13_isCurrent 109 [some (vR (some ar0))] (v.toList ++ [vI s1, vI s0]) h1 n1 Q)) : Rn (d + 1) (bc) (bs) mX13_isCurrent 98 [some (vR (some ar0))] [vI s1, vI s0] h n Q := by
  refine Rn_aload_n dX13_isCurrent_98 rfl rfl rfl ?_
  refine Rn_aload_n dX13_isCurrent_99 rfl rfl rfl ?_
  refine Rn_getfield (ci := 13) (k := 8) dX13_isCurrent_100 rfl in_13 (Nat.le_of_ble_eq_true rfl) wd_1360 rfl h2 g4 ?_
  refine Rn_bipush dX13_isCurrent_103 rfl ?_
  refine Rn_iadd dX13_isCurrent_105 ?_
  rw [w32_id b5.1 b5.2]
  exact Rn_callV (ci := 13) (avs := [vI (v3 + 6)]) (st := [vI s1, vI s0]) (bc1 := 0) (bs1 := 0) (bc2 := bc) (bs2 := bs) fx_X13_byteAt dX13_isCurrent_106 wd_1494 wd_1496 wd_48 rfl h2 rfl (Nat.le_of_ble_eq_true rfl) (Nat.le_of_ble_eq_true rfl) (by omega) (by omega) (ls1 := [some (vR (some ar0)), some (vI (v3 + 6))]) rfl k
theorem BX13_isCurrent_109 {d bc bs : Nat} {h : aH} {n : Nat} {Q : aQ} {r0 : Option Nat} {s0 s1 s2 : Int} (k : Rn d 0 0 mX13_w3 0 [some (vI s0), some (vI s1), some (vI s2)] [] h n (fun v h1 n1 => Rn (d + 1) bc bs mX13_isCurrent 112 [some (vR r0)] (v.toList ++ []) h1 n1 Q)) : Rn (d + 1) (bc) (bs) mX13_isCurrent 109 [some (vR r0)] [vI s2, vI s1, vI s0] h n Q := by
  exact Rn_callS (avs := [vI s0, vI s1, vI s2]) (st := []) (bc1 := 0) (bs1 := 0) (bc2 := bc) (bs2 := bs) fx_X13_w3 dX13_isCurrent_109 (Or.inl wd_1523) wd_1524 rfl (Nat.le_of_ble_eq_true rfl) (Nat.le_of_ble_eq_true rfl) (by omega) (by omega) (ls1 := [some (vI s0), some (vI s1), some (vI s2)]) rfl k
theorem BX13_isCurrent_112 {d bc bs : Nat} {h : aH} {n : Nat} {Q : aQ} {r0 : Option Nat} {s0 : Int} (k : Rn d 0 0 mX13_w3 0 [some (vI 101), some (vI 110), some (vI 116)] [] h n (fun v h1 n1 => Rn (d + 1) bc bs mX13_isCurrent 121 [some (vR r0)] (v.toList ++ [vL s0]) h1 n1 Q)) : Rn (d + 1) (bc) (bs) mX13_isCurrent 112 [some (vR r0)] [vL s0] h n Q := by
  refine Rn_bipush dX13_isCurrent_112 rfl ?_
  refine Rn_bipush dX13_isCurrent_114 rfl ?_
  refine Rn_bipush dX13_isCurrent_116 rfl ?_
  exact Rn_callS (avs := [vI 101, vI 110, vI 116]) (st := [vL s0]) (bc1 := 0) (bs1 := 0) (bc2 := bc) (bs2 := bs) fx_X13_w3 dX13_isCurrent_118 (Or.inl wd_1523) wd_1524 rfl (Nat.le_of_ble_eq_true rfl) (Nat.le_of_ble_eq_true rfl) (by omega) (by omega) (ls1 := [some (vI 101), some (vI 110), some (vI 116)]) rfl k
theorem BX13_isCurrent_121 {d bc bs : Nat} {h : aH} {n : Nat} {Q : aQ} {r0 : Option Nat} {s0 s1 : Int} (kt : s0 ≠ s1 → Rn d bc bs mX13_isCurrent 129 [some (vR r0)] [] h n Q) (kf : s0 = s1 → Rn d bc bs mX13_isCurrent 125 [some (vR r0)] [] h n Q) : Rn d (bc) (bs) mX13_isCurrent 121 [some (vR r0)] [vL s1, vL s0] h n Q := by
  refine Rn_lcmp dX13_isCurrent_121 ?_
  refine Rn_ifne (tgt := 129) dX13_isCurrent_122 rfl ?_ ?_
  · exact fun q => kt (lc_ne q)
  · exact fun q => kf (lc_eq q)
theorem BX13_isCurrent_125 {d bc bs : Nat} {h : aH} {n : Nat} {Q : aQ} {r0 : Option Nat} (k : Q (some (vI 1)) h n) : Rn d (bc) (bs) mX13_isCurrent 125 [some (vR r0)] [] h n Q := by
  refine Rn_iconst dX13_isCurrent_125 rfl ?_
  refine Rn_goto (tgt := 130) dX13_isCurrent_126 rfl ?_
  exact Rn_zreturn rfl dX13_isCurrent_130 (by decide) k
theorem BX13_isCurrent_129 {d bc bs : Nat} {h : aH} {n : Nat} {Q : aQ} {r0 : Option Nat} (k : Q (some (vI 0)) h n) : Rn d (bc) (bs) mX13_isCurrent 129 [some (vR r0)] [] h n Q := by
  refine Rn_iconst dX13_isCurrent_129 rfl ?_
  exact Rn_zreturn rfl dX13_isCurrent_130 (by decide) k
theorem dX13_nameOf_0 : decode cX13_nameOf 0 = .ok (.aload_n 0, 1) := by decide +kernel
theorem dX13_nameOf_1 : decode cX13_nameOf 1 = .ok (.getfield 104, 3) := by decide +kernel
theorem dX13_nameOf_4 : decode cX13_nameOf 4 = .ok (.iconst 2, 1) := by decide +kernel
theorem dX13_nameOf_5 : decode cX13_nameOf 5 = .ok (.if_icmp .eq 5, 3) := by decide +kernel
theorem dX13_nameOf_8 : decode cX13_nameOf 8 = .ok (.iconst (-1), 1) := by decide +kernel
theorem dX13_nameOf_9 : decode cX13_nameOf 9 = .ok (.ireturn, 1) := by decide +kernel
theorem dX13_nameOf_10 : decode cX13_nameOf 10 = .ok (.aload_n 0, 1) := by decide +kernel
theorem dX13_nameOf_11 : decode cX13_nameOf 11 = .ok (.getfield 117, 3) := by decide +kernel
theorem dX13_nameOf_14 : decode cX13_nameOf 14 = .ok (.bipush 116, 2) := by decide +kernel
theorem dX13_nameOf_16 : decode cX13_nameOf 16 = .ok (.bipush 105, 2) := by decide +kernel
theorem dX13_nameOf_18 : decode cX13_nameOf 18 = .ok (.bipush 100, 2) := by decide +kernel
theorem dX13_nameOf_20 : decode cX13_nameOf 20 = .ok (.bipush 101, 2) := by decide +kernel
theorem dX13_nameOf_22 : decode cX13_nameOf 22 = .ok (.invokestatic 134, 3) := by decide +kernel
theorem dX13_nameOf_25 : decode cX13_nameOf 25 = .ok (.lcmp, 1) := by decide +kernel
theorem dX13_nameOf_26 : decode cX13_nameOf 26 = .ok (.ifCond .ne 5, 3) := by decide +kernel
theorem dX13_nameOf_29 : decode cX13_nameOf 29 = .ok (.iconst 0, 1) := by decide +kernel
theorem dX13_nameOf_30 : decode cX13_nameOf 30 = .ok (.ireturn, 1) := by decide +kernel
theorem dX13_nameOf_31 : decode cX13_nameOf 31 = .ok (.aload_n 0, 1) := by decide +kernel
theorem dX13_nameOf_32 : decode cX13_nameOf 32 = .ok (.getfield 117, 3) := by decide +kernel
theorem dX13_nameOf_35 : decode cX13_nameOf 35 = .ok (.bipush 115, 2) := by decide +kernel
theorem dX13_nameOf_37 : decode cX13_nameOf 37 = .ok (.bipush 105, 2) := by decide +kernel
theorem dX13_nameOf_39 : decode cX13_nameOf 39 = .ok (.bipush 110, 2) := by decide +kernel
theorem dX13_nameOf_41 : decode cX13_nameOf 41 = .ok (.bipush 99, 2) := by decide +kernel
theorem dX13_nameOf_43 : decode cX13_nameOf 43 = .ok (.bipush 101, 2) := by decide +kernel
theorem dX13_nameOf_45 : decode cX13_nameOf 45 = .ok (.invokestatic 138, 3) := by decide +kernel
theorem dX13_nameOf_48 : decode cX13_nameOf 48 = .ok (.lcmp, 1) := by decide +kernel
theorem dX13_nameOf_49 : decode cX13_nameOf 49 = .ok (.ifCond .ne 5, 3) := by decide +kernel
theorem dX13_nameOf_52 : decode cX13_nameOf 52 = .ok (.iconst 1, 1) := by decide +kernel
theorem dX13_nameOf_53 : decode cX13_nameOf 53 = .ok (.ireturn, 1) := by decide +kernel
theorem dX13_nameOf_54 : decode cX13_nameOf 54 = .ok (.aload_n 0, 1) := by decide +kernel
theorem dX13_nameOf_55 : decode cX13_nameOf 55 = .ok (.getfield 117, 3) := by decide +kernel
theorem dX13_nameOf_58 : decode cX13_nameOf 58 = .ok (.bipush 99, 2) := by decide +kernel
theorem dX13_nameOf_60 : decode cX13_nameOf 60 = .ok (.bipush 111, 2) := by decide +kernel
theorem dX13_nameOf_62 : decode cX13_nameOf 62 = .ok (.bipush 114, 2) := by decide +kernel
theorem dX13_nameOf_64 : decode cX13_nameOf 64 = .ok (.bipush 107, 2) := by decide +kernel
theorem dX13_nameOf_66 : decode cX13_nameOf 66 = .ok (.invokestatic 134, 3) := by decide +kernel
theorem dX13_nameOf_69 : decode cX13_nameOf 69 = .ok (.lcmp, 1) := by decide +kernel
theorem dX13_nameOf_70 : decode cX13_nameOf 70 = .ok (.ifCond .ne 5, 3) := by decide +kernel
theorem dX13_nameOf_73 : decode cX13_nameOf 73 = .ok (.iconst 2, 1) := by decide +kernel
theorem dX13_nameOf_74 : decode cX13_nameOf 74 = .ok (.ireturn, 1) := by decide +kernel
theorem dX13_nameOf_75 : decode cX13_nameOf 75 = .ok (.aload_n 0, 1) := by decide +kernel
theorem dX13_nameOf_76 : decode cX13_nameOf 76 = .ok (.getfield 117, 3) := by decide +kernel
theorem dX13_nameOf_79 : decode cX13_nameOf 79 = .ok (.bipush 108, 2) := by decide +kernel
theorem dX13_nameOf_81 : decode cX13_nameOf 81 = .ok (.bipush 117, 2) := by decide +kernel
theorem dX13_nameOf_83 : decode cX13_nameOf 83 = .ok (.bipush 99, 2) := by decide +kernel
theorem dX13_nameOf_85 : decode cX13_nameOf 85 = .ok (.bipush 107, 2) := by decide +kernel
theorem dX13_nameOf_87 : decode cX13_nameOf 87 = .ok (.invokestatic 134, 3) := by decide +kernel
theorem dX13_nameOf_90 : decode cX13_nameOf 90 = .ok (.lcmp, 1) := by decide +kernel
theorem dX13_nameOf_91 : decode cX13_nameOf 91 = .ok (.ifCond .ne 5, 3) := by decide +kernel
theorem dX13_nameOf_94 : decode cX13_nameOf 94 = .ok (.iconst 3, 1) := by decide +kernel
theorem dX13_nameOf_95 : decode cX13_nameOf 95 = .ok (.ireturn, 1) := by decide +kernel
theorem dX13_nameOf_96 : decode cX13_nameOf 96 = .ok (.aload_n 0, 1) := by decide +kernel
theorem dX13_nameOf_97 : decode cX13_nameOf 97 = .ok (.getfield 117, 3) := by decide +kernel
theorem dX13_nameOf_100 : decode cX13_nameOf 100 = .ok (.bipush 97, 2) := by decide +kernel
theorem dX13_nameOf_102 : decode cX13_nameOf 102 = .ok (.bipush 116, 2) := by decide +kernel
theorem dX13_nameOf_104 : decode cX13_nameOf 104 = .ok (.invokestatic 126, 3) := by decide +kernel
theorem dX13_nameOf_107 : decode cX13_nameOf 107 = .ok (.lcmp, 1) := by decide +kernel
theorem dX13_nameOf_108 : decode cX13_nameOf 108 = .ok (.ifCond .ne 5, 3) := by decide +kernel
theorem dX13_nameOf_111 : decode cX13_nameOf 111 = .ok (.iconst 4, 1) := by decide +kernel
theorem dX13_nameOf_112 : decode cX13_nameOf 112 = .ok (.ireturn, 1) := by decide +kernel
theorem dX13_nameOf_113 : decode cX13_nameOf 113 = .ok (.aload_n 0, 1) := by decide +kernel
theorem dX13_nameOf_114 : decode cX13_nameOf 114 = .ok (.getfield 117, 3) := by decide +kernel
theorem dX13_nameOf_117 : decode cX13_nameOf 117 = .ok (.bipush 102, 2) := by decide +kernel
theorem dX13_nameOf_119 : decode cX13_nameOf 119 = .ok (.bipush 114, 2) := by decide +kernel
theorem dX13_nameOf_121 : decode cX13_nameOf 121 = .ok (.bipush 111, 2) := by decide +kernel
theorem dX13_nameOf_123 : decode cX13_nameOf 123 = .ok (.bipush 109, 2) := by decide +kernel
theorem dX13_nameOf_125 : decode cX13_nameOf 125 = .ok (.invokestatic 134, 3) := by decide +kernel
theorem dX13_nameOf_128 : decode cX13_nameOf 128 = .ok (.lcmp, 1) := by decide +kernel
theorem dX13_nameOf_129 : decode cX13_nameOf 129 = .ok (.ifCond .ne 5, 3) := by decide +kernel
theorem dX13_nameOf_132 : decode cX13_nameOf 132 = .ok (.iconst 5, 1) := by decide +kernel
theorem dX13_nameOf_133 : decode cX13_nameOf 133 = .ok (.ireturn, 1) := by decide +kernel
theorem dX13_nameOf_134 : decode cX13_nameOf 134 = .ok (.aload_n 0, 1) := by decide +kernel
theorem dX13_nameOf_135 : decode cX13_nameOf 135 = .ok (.getfield 117, 3) := by decide +kernel
theorem dX13_nameOf_138 : decode cX13_nameOf 138 = .ok (.bipush 116, 2) := by decide +kernel
theorem dX13_nameOf_140 : decode cX13_nameOf 140 = .ok (.bipush 111, 2) := by decide +kernel
theorem dX13_nameOf_142 : decode cX13_nameOf 142 = .ok (.invokestatic 126, 3) := by decide +kernel
theorem dX13_nameOf_145 : decode cX13_nameOf 145 = .ok (.lcmp, 1) := by decide +kernel
theorem dX13_nameOf_146 : decode cX13_nameOf 146 = .ok (.ifCond .ne 8, 3) := by decide +kernel
theorem dX13_nameOf_149 : decode cX13_nameOf 149 = .ok (.bipush 6, 2) := by decide +kernel
theorem dX13_nameOf_151 : decode cX13_nameOf 151 = .ok (.goto 28, 3) := by decide +kernel
theorem dX13_nameOf_154 : decode cX13_nameOf 154 = .ok (.aload_n 0, 1) := by decide +kernel
theorem dX13_nameOf_155 : decode cX13_nameOf 155 = .ok (.getfield 117, 3) := by decide +kernel
theorem dX13_nameOf_158 : decode cX13_nameOf 158 = .ok (.bipush 110, 2) := by decide +kernel
theorem dX13_nameOf_160 : decode cX13_nameOf 160 = .ok (.bipush 101, 2) := by decide +kernel
theorem dX13_nameOf_162 : decode cX13_nameOf 162 = .ok (.bipush 97, 2) := by decide +kernel
theorem dX13_nameOf_164 : decode cX13_nameOf 164 = .ok (.bipush 114, 2) := by decide +kernel
theorem dX13_nameOf_166 : decode cX13_nameOf 166 = .ok (.invokestatic 134, 3) := by decide +kernel
theorem dX13_nameOf_169 : decode cX13_nameOf 169 = .ok (.lcmp, 1) := by decide +kernel
theorem dX13_nameOf_170 : decode cX13_nameOf 170 = .ok (.ifCond .ne 8, 3) := by decide +kernel
theorem dX13_nameOf_173 : decode cX13_nameOf 173 = .ok (.bipush 7, 2) := by decide +kernel
theorem dX13_nameOf_175 : decode cX13_nameOf 175 = .ok (.goto 4, 3) := by decide +kernel
theorem dX13_nameOf_178 : decode cX13_nameOf 178 = .ok (.iconst (-1), 1) := by decide +kernel
theorem dX13_nameOf_179 : decode cX13_nameOf 179 = .ok (.ireturn, 1) := by decide +kernel
theorem BX13_nameOf_0 {d bc bs : Nat} {h : aH} {n : Nat} {Q : aQ} {ar0 : Nat} {f1 : List aV} {v3 : Int} (h2 : h ar0 = cO 13 f1) (g4 : f1[9]? = some (vI v3)) (kt : v3 = 2 → Rn d bc bs mX13_nameOf 10 [some (vR (some ar0))] [] h n Q) (kf : v3 ≠ 2 → Rn d bc bs mX13_nameOf 8 [some (vR (some ar0))] [] h n Q) : Rn d (bc) (bs) mX13_nameOf 0 [some (vR (some ar0))] [] h n Q := by
  refine Rn_aload_n dX13_nameOf_0 rfl rfl rfl ?_
  refine Rn_getfield (ci := 13) (k := 9) dX13_nameOf_1 rfl in_13 (Nat.le_of_ble_eq_true rfl) wd_1361 rfl h2 g4 ?_
  refine Rn_iconst dX13_nameOf_4 rfl ?_
  refine Rn_icmpeq (tgt := 10) dX13_nameOf_5 rfl ?_ ?_
  · exact kt
  · exact kf
theorem BX13_nameOf_8 {d bc bs : Nat} {h : aH} {n : Nat} {Q : aQ} {r0 : Option Nat} (k : Q (some (vI (-1))) h n) : Rn d (bc) (bs) mX13_nameOf 8 [some (vR r0)] [] h n Q := by
  refine Rn_iconst dX13_nameOf_8 rfl ?_
  exact Rn_ireturn rfl dX13_nameOf_9 k
theorem BX13_nameOf_10 {d bc bs : Nat} {h : aH} {n : Nat} {Q : aQ} {ar0 : Nat} {f1 : List aV} {v3 : Int} (h2 : h ar0 = cO 13 f1) (g4 : f1[11]? = some (vL v3)) (k : Rn d 0 0 mX13_w4 0 [some (vI 116), some (vI 105), some (vI 100), some (vI 101)] [] h n (fun v h1 n1 => Rn (d + 1) bc bs mX13_nameOf 25 [some (vR (some ar0))] (v.toList ++ [vL v3]) h1 n1 Q)) : Rn (d + 1) (bc) (bs) mX13_nameOf 10 [some (vR (some ar0))] [] h n Q := by
  refine Rn_aload_n dX13_nameOf_10 rfl rfl rfl ?_
  refine Rn_getfield (ci := 13) (k := 11) dX13_nameOf_11 rfl in_13 (Nat.le_of_ble_eq_true rfl) wd_1363 rfl h2 g4 ?_
  refine Rn_bipush dX13_nameOf_14 rfl ?_
  refine Rn_bipush dX13_nameOf_16 rfl ?_
  refine Rn_bipush dX13_nameOf_18 rfl ?_
  refine Rn_bipush dX13_nameOf_20 rfl ?_
  exact Rn_callS (avs := [vI 116, vI 105, vI 100, vI 101]) (st := [vL v3]) (bc1 := 0) (bs1 := 0) (bc2 := bc) (bs2 := bs) fx_X13_w4 dX13_nameOf_22 (Or.inl wd_1520) wd_1521 rfl (Nat.le_of_ble_eq_true rfl) (Nat.le_of_ble_eq_true rfl) (by omega) (by omega) (ls1 := [some (vI 116), some (vI 105), some (vI 100), some (vI 101)]) rfl k
theorem BX13_nameOf_25 {d bc bs : Nat} {h : aH} {n : Nat} {Q : aQ} {r0 : Option Nat} {s0 s1 : Int} (kt : s0 ≠ s1 → Rn d bc bs mX13_nameOf 31 [some (vR r0)] [] h n Q) (kf : s0 = s1 → Rn d bc bs mX13_nameOf 29 [some (vR r0)] [] h n Q) : Rn d (bc) (bs) mX13_nameOf 25 [some (vR r0)] [vL s1, vL s0] h n Q := by
  refine Rn_lcmp dX13_nameOf_25 ?_
  refine Rn_ifne (tgt := 31) dX13_nameOf_26 rfl ?_ ?_
  · exact fun q => kt (lc_ne q)
  · exact fun q => kf (lc_eq q)
theorem BX13_nameOf_29 {d bc bs : Nat} {h : aH} {n : Nat} {Q : aQ} {r0 : Option Nat} (k : Q (some (vI 0)) h n) : Rn d (bc) (bs) mX13_nameOf 29 [some (vR r0)] [] h n Q := by
  refine Rn_iconst dX13_nameOf_29 rfl ?_
  exact Rn_ireturn rfl dX13_nameOf_30 k
theorem BX13_nameOf_31 {d bc bs : Nat} {h : aH} {n : Nat} {Q : aQ} {ar0 : Nat} {f1 : List aV} {v3 : Int} (h2 : h ar0 = cO 13 f1) (g4 : f1[11]? = some (vL v3)) (k : Rn d 0 0 mX13_w5 0 [some (vI 115), some (vI 105), some (vI 110), some (vI 99), some (vI 101)] [] h n (fun v h1 n1 => Rn (d + 1) bc bs mX13_nameOf 48 [some (vR (some ar0))] (v.toList ++ [vL v3]) h1 n1 Q)) : Rn (d + 1) (bc) (bs) mX13_nameOf 31 [some (vR (some ar0))] [] h n Q := by
  refine Rn_aload_n dX13_nameOf_31 rfl rfl rfl ?_
  refine Rn_getfield (ci := 13) (k := 11) dX13_nameOf_32 rfl in_13 (Nat.le_of_ble_eq_true rfl) wd_1363 rfl h2 g4 ?_
  refine Rn_bipush dX13_nameOf_35 rfl ?_
  refine Rn_bipush dX13_nameOf_37 rfl ?_
  refine Rn_bipush dX13_nameOf_39 rfl ?_
  refine Rn_bipush dX13_nameOf_41 rfl ?_
  refine Rn_bipush dX13_nameOf_43 rfl ?_
  exact Rn_callS (avs := [vI 115, vI 105, vI 110, vI 99, vI 101]) (st := [vL v3]) (bc1 := 0) (bs1 := 0) (bc2 := bc) (bs2 := bs) fx_X13_w5 dX13_nameOf_45 (Or.inl wd_1517) wd_1518 rfl (Nat.le_of_ble_eq_true rfl) (Nat.le_of_ble_eq_true rfl) (by omega) (by omega) (ls1 := [some (vI 115), some (vI 105), some (vI 110), some (vI 99), some (vI 101)]) rfl k
theorem BX13_nameOf_48 {d bc bs : Nat} {h : aH} {n : Nat} {Q : aQ} {r0 : Option Nat} {s0 s1 : Int} (kt : s0 ≠ s1 → Rn d bc bs mX13_nameOf 54 [some (vR r0)] [] h n Q) (kf : s0 = s1 → Rn d bc bs mX13_nameOf 52 [some (vR r0)] [] h n Q) : Rn d (bc) (bs) mX13_nameOf 48 [some (vR r0)] [vL s1, vL s0] h n Q := by
  refine Rn_lcmp dX13_nameOf_48 ?_
  refine Rn_ifne (tgt := 54) dX13_nameOf_49 rfl ?_ ?_
  · exact fun q => kt (lc_ne q)
  · exact fun q => kf (lc_eq q)
theorem BX13_nameOf_52 {d bc bs : Nat} {h : aH} {n : Nat} {Q : aQ} {r0 : Option Nat} (k : Q (some (vI 1)) h n) : Rn d (bc) (bs) mX13_nameOf 52 [some (vR r0)] [] h n Q := by
  refine Rn_iconst dX13_nameOf_52 rfl ?_
  exact Rn_ireturn rfl dX13_nameOf_53 k
theorem BX13_nameOf_54 {d bc bs : Nat} {h : aH} {n : Nat} {Q : aQ} {ar0 : Nat} {f1 : List aV} {v3 : Int} (h2 : h ar0 = cO 13 f1) (g4 : f1[11]? = some (vL v3)) (k : Rn d 0 0 mX13_w4 0 [some (vI 99), some (vI 111), some (vI 114), some (vI 107)] [] h n (fun v h1 n1 => Rn (d + 1) bc bs mX13_nameOf 69 [some (vR (some ar0))] (v.toList ++ [vL v3]) h1 n1 Q)) : Rn (d + 1) (bc) (bs) mX13_nameOf 54 [some (vR (some ar0))] [] h n Q := by
  refine Rn_aload_n dX13_nameOf_54 rfl rfl rfl ?_
  refine Rn_getfield (ci := 13) (k := 11) dX13_nameOf_55 rfl in_13 (Nat.le_of_ble_eq_true rfl) wd_1363 rfl h2 g4 ?_
  refine Rn_bipush dX13_nameOf_58 rfl ?_
  refine Rn_bipush dX13_nameOf_60 rfl ?_
  refine Rn_bipush dX13_nameOf_62 rfl ?_
  refine Rn_bipush dX13_nameOf_64 rfl ?_
  exact Rn_callS (avs := [vI 99, vI 111, vI 114, vI 107]) (st := [vL v3]) (bc1 := 0) (bs1 := 0) (bc2 := bc) (bs2 := bs) fx_X13_w4 dX13_nameOf_66 (Or.inl wd_1520) wd_1521 rfl (Nat.le_of_ble_eq_true rfl) (Nat.le_of_ble_eq_true rfl) (by omega) (by omega) (ls1 := [some (vI 99), some (vI 111), some (vI 114), some (vI 107)]) rfl k
theorem BX13_nameOf_69 {d bc bs : Nat} {h : aH} {n : Nat} {Q : aQ} {r0 : Option Nat} {s0 s1 : Int} (kt : s0 ≠ s1 → Rn d bc bs mX13_nameOf 75 [some (vR r0)] [] h n Q) (kf : s0 = s1 → Rn d bc bs mX13_nameOf 73 [some (vR r0)] [] h n Q) : Rn d (bc) (bs) mX13_nameOf 69 [some (vR r0)] [vL s1, vL s0] h n Q := by
  refine Rn_lcmp dX13_nameOf_69 ?_
  refine Rn_ifne (tgt := 75) dX13_nameOf_70 rfl ?_ ?_
  · exact fun q => kt (lc_ne q)
  · exact fun q => kf (lc_eq q)
theorem BX13_nameOf_73 {d bc bs : Nat} {h : aH} {n : Nat} {Q : aQ} {r0 : Option Nat} (k : Q (some (vI 2)) h n) : Rn d (bc) (bs) mX13_nameOf 73 [some (vR r0)] [] h n Q := by
  refine Rn_iconst dX13_nameOf_73 rfl ?_
  exact Rn_ireturn rfl dX13_nameOf_74 k
theorem BX13_nameOf_75 {d bc bs : Nat} {h : aH} {n : Nat} {Q : aQ} {ar0 : Nat} {f1 : List aV} {v3 : Int} (h2 : h ar0 = cO 13 f1) (g4 : f1[11]? = some (vL v3)) (k : Rn d 0 0 mX13_w4 0 [some (vI 108), some (vI 117), some (vI 99), some (vI 107)] [] h n (fun v h1 n1 => Rn (d + 1) bc bs mX13_nameOf 90 [some (vR (some ar0))] (v.toList ++ [vL v3]) h1 n1 Q)) : Rn (d + 1) (bc) (bs) mX13_nameOf 75 [some (vR (some ar0))] [] h n Q := by
  refine Rn_aload_n dX13_nameOf_75 rfl rfl rfl ?_
  refine Rn_getfield (ci := 13) (k := 11) dX13_nameOf_76 rfl in_13 (Nat.le_of_ble_eq_true rfl) wd_1363 rfl h2 g4 ?_
  refine Rn_bipush dX13_nameOf_79 rfl ?_
  refine Rn_bipush dX13_nameOf_81 rfl ?_
  refine Rn_bipush dX13_nameOf_83 rfl ?_
  refine Rn_bipush dX13_nameOf_85 rfl ?_
  exact Rn_callS (avs := [vI 108, vI 117, vI 99, vI 107]) (st := [vL v3]) (bc1 := 0) (bs1 := 0) (bc2 := bc) (bs2 := bs) fx_X13_w4 dX13_nameOf_87 (Or.inl wd_1520) wd_1521 rfl (Nat.le_of_ble_eq_true rfl) (Nat.le_of_ble_eq_true rfl) (by omega) (by omega) (ls1 := [some (vI 108), some (vI 117), some (vI 99), some (vI 107)]) rfl k
theorem BX13_nameOf_90 {d bc bs : Nat} {h : aH} {n : Nat} {Q : aQ} {r0 : Option Nat} {s0 s1 : Int} (kt : s0 ≠ s1 → Rn d bc bs mX13_nameOf 96 [some (vR r0)] [] h n Q) (kf : s0 = s1 → Rn d bc bs mX13_nameOf 94 [some (vR r0)] [] h n Q) : Rn d (bc) (bs) mX13_nameOf 90 [some (vR r0)] [vL s1, vL s0] h n Q := by
  refine Rn_lcmp dX13_nameOf_90 ?_
  refine Rn_ifne (tgt := 96) dX13_nameOf_91 rfl ?_ ?_
  · exact fun q => kt (lc_ne q)
  · exact fun q => kf (lc_eq q)
theorem BX13_nameOf_94 {d bc bs : Nat} {h : aH} {n : Nat} {Q : aQ} {r0 : Option Nat} (k : Q (some (vI 3)) h n) : Rn d (bc) (bs) mX13_nameOf 94 [some (vR r0)] [] h n Q := by
  refine Rn_iconst dX13_nameOf_94 rfl ?_
  exact Rn_ireturn rfl dX13_nameOf_95 k
theorem BX13_nameOf_96 {d bc bs : Nat} {h : aH} {n : Nat} {Q : aQ} {ar0 : Nat} {f1 : List aV} {v3 : Int} (h2 : h ar0 = cO 13 f1) (g4 : f1[11]? = some (vL v3)) (k : Rn d 0 0 mX13_w2 0 [some (vI 97), some (vI 116)] [] h n (fun v h1 n1 => Rn (d + 1) bc bs mX13_nameOf 107 [some (vR (some ar0))] (v.toList ++ [vL v3]) h1 n1 Q)) : Rn (d + 1) (bc) (bs) mX13_nameOf 96 [some (vR (some ar0))] [] h n Q := by
  refine Rn_aload_n dX13_nameOf_96 rfl rfl rfl ?_
  refine Rn_getfield (ci := 13) (k := 11) dX13_nameOf_97 rfl in_13 (Nat.le_of_ble_eq_true rfl) wd_1363 rfl h2 g4 ?_
  refine Rn_bipush dX13_nameOf_100 rfl ?_
  refine Rn_bipush dX13_nameOf_102 rfl ?_
  exact Rn_callS (avs := [vI 97, vI 116]) (st := [vL v3]) (bc1 := 0) (bs1 := 0) (bc2 := bc) (bs2 := bs) fx_X13_w2 dX13_nameOf_104 (Or.inl wd_1526) wd_1527 rfl (Nat.le_of_ble_eq_true rfl) (Nat.le_of_ble_eq_true rfl) (by omega) (by omega) (ls1 := [some (vI 97), some (vI 116)]) rfl k
theorem BX13_nameOf_107 {d bc bs : Nat} {h : aH} {n : Nat} {Q : aQ} {r0 : Option Nat} {s0 s1 : Int} (kt : s0 ≠ s1 → Rn d bc bs mX13_nameOf 113 [some (vR r0)] [] h n Q) (kf : s0 = s1 → Rn d bc bs mX13_nameOf 111 [some (vR r0)] [] h n Q) : Rn d (bc) (bs) mX13_nameOf 107 [some (vR r0)] [vL s1, vL s0] h n Q := by
  refine Rn_lcmp dX13_nameOf_107 ?_
  refine Rn_ifne (tgt := 113) dX13_nameOf_108 rfl ?_ ?_
  · exact fun q => kt (lc_ne q)
  · exact fun q => kf (lc_eq q)
theorem BX13_nameOf_111 {d bc bs : Nat} {h : aH} {n : Nat} {Q : aQ} {r0 : Option Nat} (k : Q (some (vI 4)) h n) : Rn d (bc) (bs) mX13_nameOf 111 [some (vR r0)] [] h n Q := by
  refine Rn_iconst dX13_nameOf_111 rfl ?_
  exact Rn_ireturn rfl dX13_nameOf_112 k
theorem BX13_nameOf_113 {d bc bs : Nat} {h : aH} {n : Nat} {Q : aQ} {ar0 : Nat} {f1 : List aV} {v3 : Int} (h2 : h ar0 = cO 13 f1) (g4 : f1[11]? = some (vL v3)) (k : Rn d 0 0 mX13_w4 0 [some (vI 102), some (vI 114), some (vI 111), some (vI 109)] [] h n (fun v h1 n1 => Rn (d + 1) bc bs mX13_nameOf 128 [some (vR (some ar0))] (v.toList ++ [vL v3]) h1 n1 Q)) : Rn (d + 1) (bc) (bs) mX13_nameOf 113 [some (vR (some ar0))] [] h n Q := by
  refine Rn_aload_n dX13_nameOf_113 rfl rfl rfl ?_
  refine Rn_getfield (ci := 13) (k := 11) dX13_nameOf_114 rfl in_13 (Nat.le_of_ble_eq_true rfl) wd_1363 rfl h2 g4 ?_
  refine Rn_bipush dX13_nameOf_117 rfl ?_
  refine Rn_bipush dX13_nameOf_119 rfl ?_
  refine Rn_bipush dX13_nameOf_121 rfl ?_
  refine Rn_bipush dX13_nameOf_123 rfl ?_
  exact Rn_callS (avs := [vI 102, vI 114, vI 111, vI 109]) (st := [vL v3]) (bc1 := 0) (bs1 := 0) (bc2 := bc) (bs2 := bs) fx_X13_w4 dX13_nameOf_125 (Or.inl wd_1520) wd_1521 rfl (Nat.le_of_ble_eq_true rfl) (Nat.le_of_ble_eq_true rfl) (by omega) (by omega) (ls1 := [some (vI 102), some (vI 114), some (vI 111), some (vI 109)]) rfl k
theorem BX13_nameOf_128 {d bc bs : Nat} {h : aH} {n : Nat} {Q : aQ} {r0 : Option Nat} {s0 s1 : Int} (kt : s0 ≠ s1 → Rn d bc bs mX13_nameOf 134 [some (vR r0)] [] h n Q) (kf : s0 = s1 → Rn d bc bs mX13_nameOf 132 [some (vR r0)] [] h n Q) : Rn d (bc) (bs) mX13_nameOf 128 [some (vR r0)] [vL s1, vL s0] h n Q := by
  refine Rn_lcmp dX13_nameOf_128 ?_
  refine Rn_ifne (tgt := 134) dX13_nameOf_129 rfl ?_ ?_
  · exact fun q => kt (lc_ne q)
  · exact fun q => kf (lc_eq q)
theorem BX13_nameOf_132 {d bc bs : Nat} {h : aH} {n : Nat} {Q : aQ} {r0 : Option Nat} (k : Q (some (vI 5)) h n) : Rn d (bc) (bs) mX13_nameOf 132 [some (vR r0)] [] h n Q := by
  refine Rn_iconst dX13_nameOf_132 rfl ?_
  exact Rn_ireturn rfl dX13_nameOf_133 k
theorem BX13_nameOf_134 {d bc bs : Nat} {h : aH} {n : Nat} {Q : aQ} {ar0 : Nat} {f1 : List aV} {v3 : Int} (h2 : h ar0 = cO 13 f1) (g4 : f1[11]? = some (vL v3)) (k : Rn d 0 0 mX13_w2 0 [some (vI 116), some (vI 111)] [] h n (fun v h1 n1 => Rn (d + 1) bc bs mX13_nameOf 145 [some (vR (some ar0))] (v.toList ++ [vL v3]) h1 n1 Q)) : Rn (d + 1) (bc) (bs) mX13_nameOf 134 [some (vR (some ar0))] [] h n Q := by
  refine Rn_aload_n dX13_nameOf_134 rfl rfl rfl ?_
  refine Rn_getfield (ci := 13) (k := 11) dX13_nameOf_135 rfl in_13 (Nat.le_of_ble_eq_true rfl) wd_1363 rfl h2 g4 ?_
  refine Rn_bipush dX13_nameOf_138 rfl ?_
  refine Rn_bipush dX13_nameOf_140 rfl ?_
  exact Rn_callS (avs := [vI 116, vI 111]) (st := [vL v3]) (bc1 := 0) (bs1 := 0) (bc2 := bc) (bs2 := bs) fx_X13_w2 dX13_nameOf_142 (Or.inl wd_1526) wd_1527 rfl (Nat.le_of_ble_eq_true rfl) (Nat.le_of_ble_eq_true rfl) (by omega) (by omega) (ls1 := [some (vI 116), some (vI 111)]) rfl k
theorem BX13_nameOf_145 {d bc bs : Nat} {h : aH} {n : Nat} {Q : aQ} {r0 : Option Nat} {s0 s1 : Int} (kt : s0 ≠ s1 → Rn d bc bs mX13_nameOf 154 [some (vR r0)] [] h n Q) (kf : s0 = s1 → Rn d bc bs mX13_nameOf 149 [some (vR r0)] [] h n Q) : Rn d (bc) (bs) mX13_nameOf 145 [some (vR r0)] [vL s1, vL s0] h n Q := by
  refine Rn_lcmp dX13_nameOf_145 ?_
  refine Rn_ifne (tgt := 154) dX13_nameOf_146 rfl ?_ ?_
  · exact fun q => kt (lc_ne q)
  · exact fun q => kf (lc_eq q)
theorem BX13_nameOf_149 {d bc bs : Nat} {h : aH} {n : Nat} {Q : aQ} {r0 : Option Nat} (k : Q (some (vI 6)) h n) : Rn d (bc) (bs) mX13_nameOf 149 [some (vR r0)] [] h n Q := by
  refine Rn_bipush dX13_nameOf_149 rfl ?_
  refine Rn_goto (tgt := 179) dX13_nameOf_151 rfl ?_
  exact Rn_ireturn rfl dX13_nameOf_179 k
theorem BX13_nameOf_154 {d bc bs : Nat} {h : aH} {n : Nat} {Q : aQ} {ar0 : Nat} {f1 : List aV} {v3 : Int} (h2 : h ar0 = cO 13 f1) (g4 : f1[11]? = some (vL v3)) (k : Rn d 0 0 mX13_w4 0 [some (vI 110), some (vI 101), some (vI 97), some (vI 114)] [] h n (fun v h1 n1 => Rn (d + 1) bc bs mX13_nameOf 169 [some (vR (some ar0))] (v.toList ++ [vL v3]) h1 n1 Q)) : Rn (d + 1) (bc) (bs) mX13_nameOf 154 [some (vR (some ar0))] [] h n Q := by
  refine Rn_aload_n dX13_nameOf_154 rfl rfl rfl ?_
  refine Rn_getfield (ci := 13) (k := 11) dX13_nameOf_155 rfl in_13 (Nat.le_of_ble_eq_true rfl) wd_1363 rfl h2 g4 ?_
  refine Rn_bipush dX13_nameOf_158 rfl ?_
  refine Rn_bipush dX13_nameOf_160 rfl ?_
  refine Rn_bipush dX13_nameOf_162 rfl ?_
  refine Rn_bipush dX13_nameOf_164 rfl ?_
  exact Rn_callS (avs := [vI 110, vI 101, vI 97, vI 114]) (st := [vL v3]) (bc1 := 0) (bs1 := 0) (bc2 := bc) (bs2 := bs) fx_X13_w4 dX13_nameOf_166 (Or.inl wd_1520) wd_1521 rfl (Nat.le_of_ble_eq_true rfl) (Nat.le_of_ble_eq_true rfl) (by omega) (by omega) (ls1 := [some (vI 110), some (vI 101), some (vI 97), some (vI 114)]) rfl k
theorem BX13_nameOf_169 {d bc bs : Nat} {h : aH} {n : Nat} {Q : aQ} {r0 : Option Nat} {s0 s1 : Int} (kt : s0 ≠ s1 → Rn d bc bs mX13_nameOf 178 [some (vR r0)] [] h n Q) (kf : s0 = s1 → Rn d bc bs mX13_nameOf 173 [some (vR r0)] [] h n Q) : Rn d (bc) (bs) mX13_nameOf 169 [some (vR r0)] [vL s1, vL s0] h n Q := by
  refine Rn_lcmp dX13_nameOf_169 ?_
  refine Rn_ifne (tgt := 178) dX13_nameOf_170 rfl ?_ ?_
  · exact fun q => kt (lc_ne q)
  · exact fun q => kf (lc_eq q)
theorem BX13_nameOf_173 {d bc bs : Nat} {h : aH} {n : Nat} {Q : aQ} {r0 : Option Nat} (k : Q (some (vI 7)) h n) : Rn d (bc) (bs) mX13_nameOf 173 [some (vR r0)] [] h n Q := by
  refine Rn_bipush dX13_nameOf_173 rfl ?_
  refine Rn_goto (tgt := 179) dX13_nameOf_175 rfl ?_
  exact Rn_ireturn rfl dX13_nameOf_179 k
theorem BX13_nameOf_178 {d bc bs : Nat} {h : aH} {n : Nat} {Q : aQ} {r0 : Option Nat} (k : Q (some (vI (-1))) h n) : Rn d (bc) (bs) mX13_nameOf 178 [some (vR r0)] [] h n Q := by
  refine Rn_iconst dX13_nameOf_178 rfl ?_
  exact Rn_ireturn rfl dX13_nameOf_179 k
theorem dX13_rank_0 : decode cX13_rank 0 = .ok (.iload_n 0, 1) := by decide +kernel
theorem dX13_rank_1 : decode cX13_rank 1 = .ok (.bipush 40, 2) := by decide +kernel
theorem dX13_rank_3 : decode cX13_rank 3 = .ok (.if_icmp .lt 7, 3) := by decide +kernel
theorem dX13_rank_6 : decode cX13_rank 6 = .ok (.iconst 0, 1) := by decide +kernel
theorem dX13_rank_7 : decode cX13_rank 7 = .ok (.goto 75, 3) := by decide +kernel
theorem dX13_rank_10 : decode cX13_rank 10 = .ok (.iload_n 0, 1) := by decide +kernel
theorem dX13_rank_11 : decode cX13_rank 11 = .ok (.bipush 22, 2) := by decide +kernel
theorem dX13_rank_13 : decode cX13_rank 13 = .ok (.if_icmp .ne 7, 3) := by decide +kernel
theorem dX13_rank_16 : decode cX13_rank 16 = .ok (.iconst 1, 1) := by decide +kernel
theorem dX13_rank_17 : decode cX13_rank 17 = .ok (.goto 65, 3) := by decide +kernel
theorem dX13_rank_20 : decode cX13_rank 20 = .ok (.iload_n 0, 1) := by decide +kernel
theorem dX13_rank_21 : decode cX13_rank 21 = .ok (.bipush 21, 2) := by decide +kernel
theorem dX13_rank_23 : decode cX13_rank 23 = .ok (.if_icmp .ne 7, 3) := by decide +kernel
theorem dX13_rank_26 : decode cX13_rank 26 = .ok (.iconst 2, 1) := by decide +kernel
theorem dX13_rank_27 : decode cX13_rank 27 = .ok (.goto 55, 3) := by decide +kernel
theorem dX13_rank_30 : decode cX13_rank 30 = .ok (.iload_n 0, 1) := by decide +kernel
theorem dX13_rank_31 : decode cX13_rank 31 = .ok (.bipush 20, 2) := by decide +kernel
theorem dX13_rank_33 : decode cX13_rank 33 = .ok (.if_icmp .ne 7, 3) := by decide +kernel
theorem dX13_rank_36 : decode cX13_rank 36 = .ok (.iconst 3, 1) := by decide +kernel
theorem dX13_rank_37 : decode cX13_rank 37 = .ok (.goto 45, 3) := by decide +kernel
theorem dX13_rank_40 : decode cX13_rank 40 = .ok (.iload_n 0, 1) := by decide +kernel
theorem dX13_rank_41 : decode cX13_rank 41 = .ok (.bipush 10, 2) := by decide +kernel
theorem dX13_rank_43 : decode cX13_rank 43 = .ok (.if_icmp .lt 7, 3) := by decide +kernel
theorem dX13_rank_46 : decode cX13_rank 46 = .ok (.iconst 4, 1) := by decide +kernel
theorem dX13_rank_47 : decode cX13_rank 47 = .ok (.goto 35, 3) := by decide +kernel
theorem dX13_rank_50 : decode cX13_rank 50 = .ok (.iload_n 0, 1) := by decide +kernel
theorem dX13_rank_51 : decode cX13_rank 51 = .ok (.iconst 5, 1) := by decide +kernel
theorem dX13_rank_52 : decode cX13_rank 52 = .ok (.if_icmp .eq 13, 3) := by decide +kernel
theorem dX13_rank_55 : decode cX13_rank 55 = .ok (.iload_n 0, 1) := by decide +kernel
theorem dX13_rank_56 : decode cX13_rank 56 = .ok (.iconst 2, 1) := by decide +kernel
theorem dX13_rank_57 : decode cX13_rank 57 = .ok (.if_icmp .eq 8, 3) := by decide +kernel
theorem dX13_rank_60 : decode cX13_rank 60 = .ok (.iload_n 0, 1) := by decide +kernel
theorem dX13_rank_61 : decode cX13_rank 61 = .ok (.iconst 4, 1) := by decide +kernel
theorem dX13_rank_62 : decode cX13_rank 62 = .ok (.if_icmp .ne 8, 3) := by decide +kernel
theorem dX13_rank_65 : decode cX13_rank 65 = .ok (.bipush 7, 2) := by decide +kernel
theorem dX13_rank_67 : decode cX13_rank 67 = .ok (.goto 15, 3) := by decide +kernel
theorem dX13_rank_70 : decode cX13_rank 70 = .ok (.iload_n 0, 1) := by decide +kernel
theorem dX13_rank_71 : decode cX13_rank 71 = .ok (.bipush 8, 2) := by decide +kernel
theorem dX13_rank_73 : decode cX13_rank 73 = .ok (.if_icmp .lt 8, 3) := by decide +kernel
theorem dX13_rank_76 : decode cX13_rank 76 = .ok (.bipush 6, 2) := by decide +kernel
theorem dX13_rank_78 : decode cX13_rank 78 = .ok (.goto 4, 3) := by decide +kernel
theorem dX13_rank_81 : decode cX13_rank 81 = .ok (.iconst 5, 1) := by decide +kernel
theorem dX13_rank_82 : decode cX13_rank 82 = .ok (.ireturn, 1) := by decide +kernel
theorem BX13_rank_0 {d bc bs : Nat} {h : aH} {n : Nat} {Q : aQ} {x0 : Int} (kt : x0 < 40 → Rn d bc bs mX13_rank 10 [some (vI x0)] [] h n Q) (kf : 40 ≤ x0 → Rn d bc bs mX13_rank 6 [some (vI x0)] [] h n Q) : Rn d (bc) (bs) mX13_rank 0 [some (vI x0)] [] h n Q := by
  refine Rn_iload_n dX13_rank_0 rfl rfl ?_
  refine Rn_bipush dX13_rank_1 rfl ?_
  refine Rn_icmplt (tgt := 10) dX13_rank_3 rfl ?_ ?_
  · exact kt
  · exact kf
theorem BX13_rank_6 {d bc bs : Nat} {h : aH} {n : Nat} {Q : aQ} {x0 : Int} (k : Q (some (vI 0)) h n) : Rn d (bc) (bs) mX13_rank 6 [some (vI x0)] [] h n Q := by
  refine Rn_iconst dX13_rank_6 rfl ?_
  refine Rn_goto (tgt := 82) dX13_rank_7 rfl ?_
  exact Rn_ireturn rfl dX13_rank_82 k
theorem BX13_rank_10 {d bc bs : Nat} {h : aH} {n : Nat} {Q : aQ} {x0 : Int} (kt : x0 ≠ 22 → Rn d bc bs mX13_rank 20 [some (vI x0)] [] h n Q) (kf : x0 = 22 → Rn d bc bs mX13_rank 16 [some (vI x0)] [] h n Q) : Rn d (bc) (bs) mX13_rank 10 [some (vI x0)] [] h n Q := by
  refine Rn_iload_n dX13_rank_10 rfl rfl ?_
  refine Rn_bipush dX13_rank_11 rfl ?_
  refine Rn_icmpne (tgt := 20) dX13_rank_13 rfl ?_ ?_
  · exact kt
  · exact kf
theorem BX13_rank_16 {d bc bs : Nat} {h : aH} {n : Nat} {Q : aQ} {x0 : Int} (k : Q (some (vI 1)) h n) : Rn d (bc) (bs) mX13_rank 16 [some (vI x0)] [] h n Q := by
  refine Rn_iconst dX13_rank_16 rfl ?_
  refine Rn_goto (tgt := 82) dX13_rank_17 rfl ?_
  exact Rn_ireturn rfl dX13_rank_82 k
theorem BX13_rank_20 {d bc bs : Nat} {h : aH} {n : Nat} {Q : aQ} {x0 : Int} (kt : x0 ≠ 21 → Rn d bc bs mX13_rank 30 [some (vI x0)] [] h n Q) (kf : x0 = 21 → Rn d bc bs mX13_rank 26 [some (vI x0)] [] h n Q) : Rn d (bc) (bs) mX13_rank 20 [some (vI x0)] [] h n Q := by
  refine Rn_iload_n dX13_rank_20 rfl rfl ?_
  refine Rn_bipush dX13_rank_21 rfl ?_
  refine Rn_icmpne (tgt := 30) dX13_rank_23 rfl ?_ ?_
  · exact kt
  · exact kf
theorem BX13_rank_26 {d bc bs : Nat} {h : aH} {n : Nat} {Q : aQ} {x0 : Int} (k : Q (some (vI 2)) h n) : Rn d (bc) (bs) mX13_rank 26 [some (vI x0)] [] h n Q := by
  refine Rn_iconst dX13_rank_26 rfl ?_
  refine Rn_goto (tgt := 82) dX13_rank_27 rfl ?_
  exact Rn_ireturn rfl dX13_rank_82 k
theorem BX13_rank_30 {d bc bs : Nat} {h : aH} {n : Nat} {Q : aQ} {x0 : Int} (kt : x0 ≠ 20 → Rn d bc bs mX13_rank 40 [some (vI x0)] [] h n Q) (kf : x0 = 20 → Rn d bc bs mX13_rank 36 [some (vI x0)] [] h n Q) : Rn d (bc) (bs) mX13_rank 30 [some (vI x0)] [] h n Q := by
  refine Rn_iload_n dX13_rank_30 rfl rfl ?_
  refine Rn_bipush dX13_rank_31 rfl ?_
  refine Rn_icmpne (tgt := 40) dX13_rank_33 rfl ?_ ?_
  · exact kt
  · exact kf
theorem BX13_rank_36 {d bc bs : Nat} {h : aH} {n : Nat} {Q : aQ} {x0 : Int} (k : Q (some (vI 3)) h n) : Rn d (bc) (bs) mX13_rank 36 [some (vI x0)] [] h n Q := by
  refine Rn_iconst dX13_rank_36 rfl ?_
  refine Rn_goto (tgt := 82) dX13_rank_37 rfl ?_
  exact Rn_ireturn rfl dX13_rank_82 k
theorem BX13_rank_40 {d bc bs : Nat} {h : aH} {n : Nat} {Q : aQ} {x0 : Int} (kt : x0 < 10 → Rn d bc bs mX13_rank 50 [some (vI x0)] [] h n Q) (kf : 10 ≤ x0 → Rn d bc bs mX13_rank 46 [some (vI x0)] [] h n Q) : Rn d (bc) (bs) mX13_rank 40 [some (vI x0)] [] h n Q := by
  refine Rn_iload_n dX13_rank_40 rfl rfl ?_
  refine Rn_bipush dX13_rank_41 rfl ?_
  refine Rn_icmplt (tgt := 50) dX13_rank_43 rfl ?_ ?_
  · exact kt
  · exact kf
theorem BX13_rank_46 {d bc bs : Nat} {h : aH} {n : Nat} {Q : aQ} {x0 : Int} (k : Q (some (vI 4)) h n) : Rn d (bc) (bs) mX13_rank 46 [some (vI x0)] [] h n Q := by
  refine Rn_iconst dX13_rank_46 rfl ?_
  refine Rn_goto (tgt := 82) dX13_rank_47 rfl ?_
  exact Rn_ireturn rfl dX13_rank_82 k
theorem BX13_rank_50 {d bc bs : Nat} {h : aH} {n : Nat} {Q : aQ} {x0 : Int} (kt : x0 = 5 → Rn d bc bs mX13_rank 65 [some (vI x0)] [] h n Q) (kf : x0 ≠ 5 → Rn d bc bs mX13_rank 55 [some (vI x0)] [] h n Q) : Rn d (bc) (bs) mX13_rank 50 [some (vI x0)] [] h n Q := by
  refine Rn_iload_n dX13_rank_50 rfl rfl ?_
  refine Rn_iconst dX13_rank_51 rfl ?_
  refine Rn_icmpeq (tgt := 65) dX13_rank_52 rfl ?_ ?_
  · exact kt
  · exact kf
theorem BX13_rank_55 {d bc bs : Nat} {h : aH} {n : Nat} {Q : aQ} {x0 : Int} (kt : x0 = 2 → Rn d bc bs mX13_rank 65 [some (vI x0)] [] h n Q) (kf : x0 ≠ 2 → Rn d bc bs mX13_rank 60 [some (vI x0)] [] h n Q) : Rn d (bc) (bs) mX13_rank 55 [some (vI x0)] [] h n Q := by
  refine Rn_iload_n dX13_rank_55 rfl rfl ?_
  refine Rn_iconst dX13_rank_56 rfl ?_
  refine Rn_icmpeq (tgt := 65) dX13_rank_57 rfl ?_ ?_
  · exact kt
  · exact kf
theorem BX13_rank_60 {d bc bs : Nat} {h : aH} {n : Nat} {Q : aQ} {x0 : Int} (kt : x0 ≠ 4 → Rn d bc bs mX13_rank 70 [some (vI x0)] [] h n Q) (kf : x0 = 4 → Rn d bc bs mX13_rank 65 [some (vI x0)] [] h n Q) : Rn d (bc) (bs) mX13_rank 60 [some (vI x0)] [] h n Q := by
  refine Rn_iload_n dX13_rank_60 rfl rfl ?_
  refine Rn_iconst dX13_rank_61 rfl ?_
  refine Rn_icmpne (tgt := 70) dX13_rank_62 rfl ?_ ?_
  · exact kt
  · exact kf
theorem BX13_rank_65 {d bc bs : Nat} {h : aH} {n : Nat} {Q : aQ} {x0 : Int} (k : Q (some (vI 7)) h n) : Rn d (bc) (bs) mX13_rank 65 [some (vI x0)] [] h n Q := by
  refine Rn_bipush dX13_rank_65 rfl ?_
  refine Rn_goto (tgt := 82) dX13_rank_67 rfl ?_
  exact Rn_ireturn rfl dX13_rank_82 k
theorem BX13_rank_70 {d bc bs : Nat} {h : aH} {n : Nat} {Q : aQ} {x0 : Int} (kt : x0 < 8 → Rn d bc bs mX13_rank 81 [some (vI x0)] [] h n Q) (kf : 8 ≤ x0 → Rn d bc bs mX13_rank 76 [some (vI x0)] [] h n Q) : Rn d (bc) (bs) mX13_rank 70 [some (vI x0)] [] h n Q := by
  refine Rn_iload_n dX13_rank_70 rfl rfl ?_
  refine Rn_bipush dX13_rank_71 rfl ?_
  refine Rn_icmplt (tgt := 81) dX13_rank_73 rfl ?_ ?_
  · exact kt
  · exact kf
theorem BX13_rank_76 {d bc bs : Nat} {h : aH} {n : Nat} {Q : aQ} {x0 : Int} (k : Q (some (vI 6)) h n) : Rn d (bc) (bs) mX13_rank 76 [some (vI x0)] [] h n Q := by
  refine Rn_bipush dX13_rank_76 rfl ?_
  refine Rn_goto (tgt := 82) dX13_rank_78 rfl ?_
  exact Rn_ireturn rfl dX13_rank_82 k
theorem BX13_rank_81 {d bc bs : Nat} {h : aH} {n : Nat} {Q : aQ} {x0 : Int} (k : Q (some (vI 5)) h n) : Rn d (bc) (bs) mX13_rank 81 [some (vI x0)] [] h n Q := by
  refine Rn_iconst dX13_rank_81 rfl ?_
  exact Rn_ireturn rfl dX13_rank_82 k
theorem dX13_settle_0 : decode cX13_settle 0 = .ok (.aload_n 0, 1) := by decide +kernel
theorem dX13_settle_1 : decode cX13_settle 1 = .ok (.getfield 148, 3) := by decide +kernel
theorem dX13_settle_4 : decode cX13_settle 4 = .ok (.ifCond .le 89, 3) := by decide +kernel
theorem dX13_settle_7 : decode cX13_settle 7 = .ok (.aload_n 0, 1) := by decide +kernel
theorem dX13_settle_8 : decode cX13_settle 8 = .ok (.getfield 29, 3) := by decide +kernel
theorem dX13_settle_11 : decode cX13_settle 11 = .ok (.aload_n 0, 1) := by decide +kernel
theorem dX13_settle_12 : decode cX13_settle 12 = .ok (.getfield 148, 3) := by decide +kernel
theorem dX13_settle_15 : decode cX13_settle 15 = .ok (.iconst 1, 1) := by decide +kernel
theorem dX13_settle_16 : decode cX13_settle 16 = .ok (.isub, 1) := by decide +kernel
theorem dX13_settle_17 : decode cX13_settle 17 = .ok (.iaload, 1) := by decide +kernel
theorem dX13_settle_18 : decode cX13_settle 18 = .ok (.invokestatic 151, 3) := by decide +kernel
theorem dX13_settle_21 : decode cX13_settle 21 = .ok (.iload_n 1, 1) := by decide +kernel
theorem dX13_settle_22 : decode cX13_settle 22 = .ok (.if_icmp .lt 71, 3) := by decide +kernel
theorem dX13_settle_25 : decode cX13_settle 25 = .ok (.aload_n 0, 1) := by decide +kernel
theorem dX13_settle_26 : decode cX13_settle 26 = .ok (.dup, 1) := by decide +kernel
theorem dX13_settle_27 : decode cX13_settle 27 = .ok (.getfield 148, 3) := by decide +kernel
theorem dX13_settle_30 : decode cX13_settle 30 = .ok (.iconst 1, 1) := by decide +kernel
theorem dX13_settle_31 : decode cX13_settle 31 = .ok (.isub, 1) := by decide +kernel
theorem dX13_settle_32 : decode cX13_settle 32 = .ok (.putfield 148, 3) := by decide +kernel
theorem dX13_settle_35 : decode cX13_settle 35 = .ok (.aload_n 0, 1) := by decide +kernel
theorem dX13_settle_36 : decode cX13_settle 36 = .ok (.aload_n 0, 1) := by decide +kernel
theorem dX13_settle_37 : decode cX13_settle 37 = .ok (.getfield 29, 3) := by decide +kernel
theorem dX13_settle_40 : decode cX13_settle 40 = .ok (.aload_n 0, 1) := by decide +kernel
theorem dX13_settle_41 : decode cX13_settle 41 = .ok (.getfield 148, 3) := by decide +kernel
theorem dX13_settle_44 : decode cX13_settle 44 = .ok (.iaload, 1) := by decide +kernel
theorem dX13_settle_45 : decode cX13_settle 45 = .ok (.iconst 0, 1) := by decide +kernel
theorem dX13_settle_46 : decode cX13_settle 46 = .ok (.invokevirtual 154, 3) := by decide +kernel
theorem dX13_settle_49 : decode cX13_settle 49 = .ok (.aload_n 0, 1) := by decide +kernel
theorem dX13_settle_50 : decode cX13_settle 50 = .ok (.getfield 29, 3) := by decide +kernel
theorem dX13_settle_53 : decode cX13_settle 53 = .ok (.aload_n 0, 1) := by decide +kernel
theorem dX13_settle_54 : decode cX13_settle 54 = .ok (.getfield 148, 3) := by decide +kernel
theorem dX13_settle_57 : decode cX13_settle 57 = .ok (.iaload, 1) := by decide +kernel
theorem dX13_settle_58 : decode cX13_settle 58 = .ok (.invokestatic 151, 3) := by decide +kernel
theorem dX13_settle_61 : decode cX13_settle 61 = .ok (.bipush 7, 2) := by decide +kernel
theorem dX13_settle_63 : decode cX13_settle 63 = .ok (.if_icmp .eq 17, 3) := by decide +kernel
theorem dX13_settle_66 : decode cX13_settle 66 = .ok (.aload_n 0, 1) := by decide +kernel
theorem dX13_settle_67 : decode cX13_settle 67 = .ok (.getfield 29, 3) := by decide +kernel
theorem dX13_settle_70 : decode cX13_settle 70 = .ok (.aload_n 0, 1) := by decide +kernel
theorem dX13_settle_71 : decode cX13_settle 71 = .ok (.getfield 148, 3) := by decide +kernel
theorem dX13_settle_74 : decode cX13_settle 74 = .ok (.iaload, 1) := by decide +kernel
theorem dX13_settle_75 : decode cX13_settle 75 = .ok (.bipush 20, 2) := by decide +kernel
theorem dX13_settle_77 : decode cX13_settle 77 = .ok (.if_icmp .ne (-77), 3) := by decide +kernel
theorem dX13_settle_80 : decode cX13_settle 80 = .ok (.aload_n 0, 1) := by decide +kernel
theorem dX13_settle_81 : decode cX13_settle 81 = .ok (.dup, 1) := by decide +kernel
theorem dX13_settle_82 : decode cX13_settle 82 = .ok (.getfield 158, 3) := by decide +kernel
theorem dX13_settle_85 : decode cX13_settle 85 = .ok (.iconst 1, 1) := by decide +kernel
theorem dX13_settle_86 : decode cX13_settle 86 = .ok (.isub, 1) := by decide +kernel
theorem dX13_settle_87 : decode cX13_settle 87 = .ok (.putfield 158, 3) := by decide +kernel
theorem dX13_settle_90 : decode cX13_settle 90 = .ok (.goto (-90), 3) := by decide +kernel
theorem dX13_settle_93 : decode cX13_settle 93 = .ok (.return_, 1) := by decide +kernel
theorem BX13_settle_0 {d bc bs : Nat} {h : aH} {n : Nat} {Q : aQ} {ar0 : Nat} {x1 v3 : Int} {f1 : List aV} (h2 : h ar0 = cO 13 f1) (g4 : f1[16]? = some (vI v3)) (kt : v3 ≤ 0 → Rn d bc bs mX13_settle 93 [some (vR (some ar0)), some (vI x1)] [] h n Q) (kf : 0 < v3 → Rn d bc bs mX13_settle 7 [some (vR (some ar0)), some (vI x1)] [] h n Q) : Rn d (bc) (bs) mX13_settle 0 [some (vR (some ar0)), some (vI x1)] [] h n Q := by
  refine Rn_aload_n dX13_settle_0 rfl rfl rfl ?_
  refine Rn_getfield (ci := 13) (k := 16) dX13_settle_1 rfl in_13 (Nat.le_of_ble_eq_true rfl) wd_1368 rfl h2 g4 ?_
  refine Rn_ifle (tgt := 93) dX13_settle_4 rfl ?_ ?_
  · exact kt
  · exact kf
theorem BX13_settle_7 {d bc bs : Nat} {h : aH} {n : Nat} {Q : aQ} {ar0 at3 : Nat} {x1 v5 v10 : Int} {f1 : List aV} {w8 : List Int} (h2 : h ar0 = cO 13 f1) (g4 : f1[15]? = some (vR (some at3))) (g6 : f1[16]? = some (vI v5)) (b7 : -2147483648 ≤ v5 - 1 ∧ v5 - 1 < 2147483648) (h9 : h at3 = cI w8) (i11 : 0 ≤ v5 - 1) (g12 : w8[(v5 - 1 : Int).toNat]? = some v10) (k : Rn d 0 0 mX13_rank 0 [some (vI v10)] [] h n (fun v h1 n1 => Rn (d + 1) bc bs mX13_settle 21 [some (vR (some ar0)), some (vI x1)] (v.toList ++ []) h1 n1 Q)) : Rn (d + 1) (bc) (bs) mX13_settle 7 [some (vR (some ar0)), some (vI x1)] [] h n Q := by
  refine Rn_aload_n dX13_settle_7 rfl rfl rfl ?_
  refine Rn_getfield (ci := 13) (k := 15) dX13_settle_8 rfl in_13 (Nat.le_of_ble_eq_true rfl) wd_1367 rfl h2 g4 ?_
  refine Rn_aload_n dX13_settle_11 rfl rfl rfl ?_
  refine Rn_getfield (ci := 13) (k := 16) dX13_settle_12 rfl in_13 (Nat.le_of_ble_eq_true rfl) wd_1368 rfl h2 g6 ?_
  refine Rn_iconst dX13_settle_15 rfl ?_
  refine Rn_isub dX13_settle_16 ?_
  rw [w32_id b7.1 b7.2]
  refine Rn_iaload dX13_settle_17 h9 i11 g12 ?_
  exact Rn_callS (avs := [vI v10]) (st := []) (bc1 := 0) (bs1 := 0) (bc2 := bc) (bs2 := bs) fx_X13_rank dX13_settle_18 (Or.inl wd_1587) wd_1588 rfl (Nat.le_of_ble_eq_true rfl) (Nat.le_of_ble_eq_true rfl) (by omega) (by omega) (ls1 := [some (vI v10)]) rfl k
theorem BX13_settle_21 {d bc bs : Nat} {h : aH} {n : Nat} {Q : aQ} {r0 : Option Nat} {x1 s0 : Int} (kt : s0 < x1 → Rn d bc bs mX13_settle 93 [some (vR r0), some (vI x1)] [] h n Q) (kf : x1 ≤ s0 → Rn d bc bs mX13_settle 25 [some (vR r0), some (vI x1)] [] h n Q) : Rn d (bc) (bs) mX13_settle 21 [some (vR r0), some (vI x1)] [vI s0] h n Q := by
  refine Rn_iload_n dX13_settle_21 rfl rfl ?_
  refine Rn_icmplt (tgt := 93) dX13_settle_22 rfl ?_ ?_
  · exact kt
  · exact kf
theorem BX13_settle_25 {d bc bs : Nat} {h : aH} {n : Nat} {Q : aQ} {ar0 : Nat} {x1 v3 : Int} {f1 : List aV} (h2 : h ar0 = cO 13 f1) (g4 : f1[16]? = some (vI v3)) (b5 : -2147483648 ≤ v3 - 1 ∧ v3 - 1 < 2147483648) (m6 : 16 < f1.length) (k : Rn d bc bs mX13_settle 35 [some (vR (some ar0)), some (vI x1)] [] (up h ar0 (cO 13 (f1.set 16 (vI (v3 - 1))))) n Q) : Rn d (bc) (bs) mX13_settle 25 [some (vR (some ar0)), some (vI x1)] [] h n Q := by
  refine Rn_aload_n dX13_settle_25 rfl rfl rfl ?_
  refine Rn_dup dX13_settle_26 rfl ?_
  refine Rn_getfield (ci := 13) (k := 16) dX13_settle_27 rfl in_13 (Nat.le_of_ble_eq_true rfl) wd_1368 rfl h2 g4 ?_
  refine Rn_iconst dX13_settle_30 rfl ?_
  refine Rn_isub dX13_settle_31 ?_
  rw [w32_id b5.1 b5.2]
  refine Rn_putfield (ci := 13) (k := 16) dX13_settle_32 rfl in_13 tyX13_ok nmX13 (Nat.le_of_ble_eq_true rfl) wd_1368 rfl (Or.inl rfl) trivial m6 h2 ?_
  exact k
theorem BX13_settle_35 {d bc bs : Nat} {h : aH} {n : Nat} {Q : aQ} {ar0 at3 : Nat} {x1 v5 v9 : Int} {f1 : List aV} {w7 : List Int} (h2 : h ar0 = cO 13 f1) (g4 : f1[15]? = some (vR (some at3))) (g6 : f1[16]? = some (vI v5)) (h8 : h at3 = cI w7) (i10 : 0 ≤ v5) (g11 : w7[(v5 : Int).toNat]? = some v9) (k : Rn d 0 0 mX13_emit 0 [some (vR (some ar0)), some (vI v9), some (vI 0)] [] h n (fun v h1 n1 => Rn (d + 1) bc bs mX13_settle 49 [some (vR (some ar0)), some (vI x1)] (v.toList ++ []) h1 n1 Q)) : Rn (d + 1) (bc) (bs) mX13_settle 35 [some (vR (some ar0)), some (vI x1)] [] h n Q := by
  refine Rn_aload_n dX13_settle_35 rfl rfl rfl ?_
  refine Rn_aload_n dX13_settle_36 rfl rfl rfl ?_
  refine Rn_getfield (ci := 13) (k := 15) dX13_settle_37 rfl in_13 (Nat.le_of_ble_eq_true rfl) wd_1367 rfl h2 g4 ?_
  refine Rn_aload_n dX13_settle_40 rfl rfl rfl ?_
  refine Rn_getfield (ci := 13) (k := 16) dX13_settle_41 rfl in_13 (Nat.le_of_ble_eq_true rfl) wd_1368 rfl h2 g6 ?_
  refine Rn_iaload dX13_settle_44 h8 i10 g11 ?_
  refine Rn_iconst dX13_settle_45 rfl ?_
  exact Rn_callV (ci := 13) (avs := [vI v9, vI 0]) (st := []) (bc1 := 0) (bs1 := 0) (bc2 := bc) (bs2 := bs) fx_X13_emit dX13_settle_46 wd_1598 wd_1600 wd_66 rfl h2 rfl (Nat.le_of_ble_eq_true rfl) (Nat.le_of_ble_eq_true rfl) (by omega) (by omega) (ls1 := [some (vR (some ar0)), some (vI v9), some (vI 0)]) rfl k
theorem BX13_settle_49 {d bc bs : Nat} {h : aH} {n : Nat} {Q : aQ} {ar0 at3 : Nat} {x1 v5 v9 : Int} {f1 : List aV} {w7 : List Int} (h2 : h ar0 = cO 13 f1) (g4 : f1[15]? = some (vR (some at3))) (g6 : f1[16]? = some (vI v5)) (h8 : h at3 = cI w7) (i10 : 0 ≤ v5) (g11 : w7[(v5 : Int).toNat]? = some v9) (k : Rn d 0 0 mX13_rank 0 [some (vI v9)] [] h n (fun v h1 n1 => Rn (d + 1) bc bs mX13_settle 61 [some (vR (some ar0)), some (vI x1)] (v.toList ++ []) h1 n1 Q)) : Rn (d + 1) (bc) (bs) mX13_settle 49 [some (vR (some ar0)), some (vI x1)] [] h n Q := by
  refine Rn_aload_n dX13_settle_49 rfl rfl rfl ?_
  refine Rn_getfield (ci := 13) (k := 15) dX13_settle_50 rfl in_13 (Nat.le_of_ble_eq_true rfl) wd_1367 rfl h2 g4 ?_
  refine Rn_aload_n dX13_settle_53 rfl rfl rfl ?_
  refine Rn_getfield (ci := 13) (k := 16) dX13_settle_54 rfl in_13 (Nat.le_of_ble_eq_true rfl) wd_1368 rfl h2 g6 ?_
  refine Rn_iaload dX13_settle_57 h8 i10 g11 ?_
  exact Rn_callS (avs := [vI v9]) (st := []) (bc1 := 0) (bs1 := 0) (bc2 := bc) (bs2 := bs) fx_X13_rank dX13_settle_58 (Or.inl wd_1587) wd_1588 rfl (Nat.le_of_ble_eq_true rfl) (Nat.le_of_ble_eq_true rfl) (by omega) (by omega) (ls1 := [some (vI v9)]) rfl k
theorem BX13_settle_61 {d bc bs : Nat} {h : aH} {n : Nat} {Q : aQ} {r0 : Option Nat} {x1 s0 : Int} (kt : s0 = 7 → Rn d bc bs mX13_settle 80 [some (vR r0), some (vI x1)] [] h n Q) (kf : s0 ≠ 7 → Rn d bc bs mX13_settle 66 [some (vR r0), some (vI x1)] [] h n Q) : Rn d (bc) (bs) mX13_settle 61 [some (vR r0), some (vI x1)] [vI s0] h n Q := by
  refine Rn_bipush dX13_settle_61 rfl ?_
  refine Rn_icmpeq (tgt := 80) dX13_settle_63 rfl ?_ ?_
  · exact kt
  · exact kf
theorem BX13_settle_66 {d bc bs : Nat} {h : aH} {n : Nat} {Q : aQ} {ar0 at3 : Nat} {x1 v5 v9 : Int} {f1 : List aV} {w7 : List Int} (h2 : h ar0 = cO 13 f1) (g4 : f1[15]? = some (vR (some at3))) (g6 : f1[16]? = some (vI v5)) (h8 : h at3 = cI w7) (i10 : 0 ≤ v5) (g11 : w7[(v5 : Int).toNat]? = some v9) (kt : v9 ≠ 20 → Rn d bc bs mX13_settle 0 [some (vR (some ar0)), some (vI x1)] [] h n Q) (kf : v9 = 20 → Rn d bc bs mX13_settle 80 [some (vR (some ar0)), some (vI x1)] [] h n Q) : Rn d (bc) (bs) mX13_settle 66 [some (vR (some ar0)), some (vI x1)] [] h n Q := by
  refine Rn_aload_n dX13_settle_66 rfl rfl rfl ?_
  refine Rn_getfield (ci := 13) (k := 15) dX13_settle_67 rfl in_13 (Nat.le_of_ble_eq_true rfl) wd_1367 rfl h2 g4 ?_
  refine Rn_aload_n dX13_settle_70 rfl rfl rfl ?_
  refine Rn_getfield (ci := 13) (k := 16) dX13_settle_71 rfl in_13 (Nat.le_of_ble_eq_true rfl) wd_1368 rfl h2 g6 ?_
  refine Rn_iaload dX13_settle_74 h8 i10 g11 ?_
  refine Rn_bipush dX13_settle_75 rfl ?_
  refine Rn_icmpne (tgt := 0) dX13_settle_77 rfl ?_ ?_
  · exact kt
  · exact kf
theorem BX13_settle_80 {d bc bs : Nat} {h : aH} {n : Nat} {Q : aQ} {ar0 : Nat} {x1 v3 : Int} {f1 : List aV} (h2 : h ar0 = cO 13 f1) (g4 : f1[17]? = some (vI v3)) (b5 : -2147483648 ≤ v3 - 1 ∧ v3 - 1 < 2147483648) (m6 : 17 < f1.length) (k : Rn d bc bs mX13_settle 90 [some (vR (some ar0)), some (vI x1)] [] (up h ar0 (cO 13 (f1.set 17 (vI (v3 - 1))))) n Q) : Rn d (bc) (bs) mX13_settle 80 [some (vR (some ar0)), some (vI x1)] [] h n Q := by
  refine Rn_aload_n dX13_settle_80 rfl rfl rfl ?_
  refine Rn_dup dX13_settle_81 rfl ?_
  refine Rn_getfield (ci := 13) (k := 17) dX13_settle_82 rfl in_13 (Nat.le_of_ble_eq_true rfl) wd_1369 rfl h2 g4 ?_
  refine Rn_iconst dX13_settle_85 rfl ?_
  refine Rn_isub dX13_settle_86 ?_
  rw [w32_id b5.1 b5.2]
  refine Rn_putfield (ci := 13) (k := 17) dX13_settle_87 rfl in_13 tyX13_ok nmX13 (Nat.le_of_ble_eq_true rfl) wd_1369 rfl (Or.inl rfl) trivial m6 h2 ?_
  exact k
theorem BX13_settle_90 {d bc bs : Nat} {h : aH} {n : Nat} {Q : aQ} {r0 : Option Nat} {x1 : Int} (k : Rn d bc bs mX13_settle 0 [some (vR r0), some (vI x1)] [] h n Q) : Rn d (bc) (bs) mX13_settle 90 [some (vR r0), some (vI x1)] [] h n Q := by
  refine Rn_goto (tgt := 0) dX13_settle_90 rfl ?_
  exact k
theorem BX13_settle_93 {d bc bs : Nat} {h : aH} {n : Nat} {Q : aQ} {r0 : Option Nat} {x1 : Int} (k : Q none h n) : Rn d (bc) (bs) mX13_settle 93 [some (vR r0), some (vI x1)] [] h n Q := by
  exact Rn_return rfl dX13_settle_93 k
theorem dX13_openAt_0 : decode cX13_openAt 0 = .ok (.aload_n 0, 1) := by decide +kernel
theorem dX13_openAt_1 : decode cX13_openAt 1 = .ok (.getfield 148, 3) := by decide +kernel
theorem dX13_openAt_4 : decode cX13_openAt 4 = .ok (.iconst 1, 1) := by decide +kernel
theorem dX13_openAt_5 : decode cX13_openAt 5 = .ok (.isub, 1) := by decide +kernel
theorem dX13_openAt_6 : decode cX13_openAt 6 = .ok (.istore_n 1, 1) := by decide +kernel
theorem dX13_openAt_7 : decode cX13_openAt 7 = .ok (.iload_n 1, 1) := by decide +kernel
theorem dX13_openAt_8 : decode cX13_openAt 8 = .ok (.ifCond .lt 20, 3) := by decide +kernel
theorem dX13_openAt_11 : decode cX13_openAt 11 = .ok (.aload_n 0, 1) := by decide +kernel
theorem dX13_openAt_12 : decode cX13_openAt 12 = .ok (.getfield 29, 3) := by decide +kernel
theorem dX13_openAt_15 : decode cX13_openAt 15 = .ok (.iload_n 1, 1) := by decide +kernel
theorem dX13_openAt_16 : decode cX13_openAt 16 = .ok (.iaload, 1) := by decide +kernel
theorem dX13_openAt_17 : decode cX13_openAt 17 = .ok (.bipush 40, 2) := by decide +kernel
theorem dX13_openAt_19 : decode cX13_openAt 19 = .ok (.if_icmp .ge 9, 3) := by decide +kernel
theorem dX13_openAt_22 : decode cX13_openAt 22 = .ok (.iinc 1 (-1), 3) := by decide +kernel
theorem dX13_openAt_25 : decode cX13_openAt 25 = .ok (.goto (-18), 3) := by decide +kernel
theorem dX13_openAt_28 : decode cX13_openAt 28 = .ok (.iload_n 1, 1) := by decide +kernel
theorem dX13_openAt_29 : decode cX13_openAt 29 = .ok (.ireturn, 1) := by decide +kernel
theorem BX13_openAt_0 {d bc bs : Nat} {h : aH} {n : Nat} {Q : aQ} {ar0 : Nat} {l1 : Option aV} {f1 : List aV} {v3 : Int} (h2 : h ar0 = cO 13 f1) (g4 : f1[16]? = some (vI v3)) (b5 : -2147483648 ≤ v3 - 1 ∧ v3 - 1 < 2147483648) (k : Rn d bc bs mX13_openAt 7 [some (vR (some ar0)), some (vI (v3 - 1))] [] h n Q) : Rn d (bc) (bs) mX13_openAt 0 [some (vR (some ar0)), l1] [] h n Q := by
  refine Rn_aload_n dX13_openAt_0 rfl rfl rfl ?_
  refine Rn_getfield (ci := 13) (k := 16) dX13_openAt_1 rfl in_13 (Nat.le_of_ble_eq_true rfl) wd_1368 rfl h2 g4 ?_
  refine Rn_iconst dX13_openAt_4 rfl ?_
  refine Rn_isub dX13_openAt_5 ?_
  rw [w32_id b5.1 b5.2]
  refine Rn_istore_n dX13_openAt_6 rfl (Nat.le_of_ble_eq_true rfl) rfl rfl ?_
  exact k
theorem BX13_openAt_7 {d bc bs : Nat} {h : aH} {n : Nat} {Q : aQ} {r0 : Option Nat} {x1 : Int} (kt : x1 < 0 → Rn d bc bs mX13_openAt 28 [some (vR r0), some (vI x1)] [] h n Q) (kf : 0 ≤ x1 → Rn d bc bs mX13_openAt 11 [some (vR r0), some (vI x1)] [] h n Q) : Rn d (bc) (bs) mX13_openAt 7 [some (vR r0), some (vI x1)] [] h n Q := by
  refine Rn_iload_n dX13_openAt_7 rfl rfl ?_
  refine Rn_iflt (tgt := 28) dX13_openAt_8 rfl ?_ ?_
  · exact kt
  · exact kf
theorem BX13_openAt_11 {d bc bs : Nat} {h : aH} {n : Nat} {Q : aQ} {ar0 at3 : Nat} {x1 v7 : Int} {f1 : List aV} {w5 : List Int} (h2 : h ar0 = cO 13 f1) (g4 : f1[15]? = some (vR (some at3))) (h6 : h at3 = cI w5) (i8 : 0 ≤ x1) (g9 : w5[(x1 : Int).toNat]? = some v7) (kt : 40 ≤ v7 → Rn d bc bs mX13_openAt 28 [some (vR (some ar0)), some (vI x1)] [] h n Q) (kf : v7 < 40 → Rn d bc bs mX13_openAt 22 [some (vR (some ar0)), some (vI x1)] [] h n Q) : Rn d (bc) (bs) mX13_openAt 11 [some (vR (some ar0)), some (vI x1)] [] h n Q := by
  refine Rn_aload_n dX13_openAt_11 rfl rfl rfl ?_
  refine Rn_getfield (ci := 13) (k := 15) dX13_openAt_12 rfl in_13 (Nat.le_of_ble_eq_true rfl) wd_1367 rfl h2 g4 ?_
  refine Rn_iload_n dX13_openAt_15 rfl rfl ?_
  refine Rn_iaload dX13_openAt_16 h6 i8 g9 ?_
  refine Rn_bipush dX13_openAt_17 rfl ?_
  refine Rn_icmpge (tgt := 28) dX13_openAt_19 rfl ?_ ?_
  · exact kt
  · exact kf
theorem BX13_openAt_22 {d bc bs : Nat} {h : aH} {n : Nat} {Q : aQ} {r0 : Option Nat} {x1 : Int} (b1 : -2147483648 ≤ x1 + (-1) ∧ x1 + (-1) < 2147483648) (k : Rn d bc bs mX13_openAt 7 [some (vR r0), some (vI (x1 + (-1)))] [] h n Q) : Rn d (bc) (bs) mX13_openAt 22 [some (vR r0), some (vI x1)] [] h n Q := by
  refine Rn_iinc dX13_openAt_22 rfl (Nat.le_of_ble_eq_true rfl) rfl rfl rfl ?_
  rw [w32_id b1.1 b1.2]
  refine Rn_goto (tgt := 7) dX13_openAt_25 rfl ?_
  exact k
theorem BX13_openAt_28 {d bc bs : Nat} {h : aH} {n : Nat} {Q : aQ} {r0 : Option Nat} {x1 : Int} (k : Q (some (vI x1)) h n) : Rn d (bc) (bs) mX13_openAt 28 [some (vR r0), some (vI x1)] [] h n Q := by
  refine Rn_iload_n dX13_openAt_28 rfl rfl ?_
  exact Rn_ireturn rfl dX13_openAt_29 k
theorem dX13_openNow_0 : decode cX13_openNow 0 = .ok (.aload_n 0, 1) := by decide +kernel
theorem dX13_openNow_1 : decode cX13_openNow 1 = .ok (.invokevirtual 161, 3) := by decide +kernel
theorem dX13_openNow_4 : decode cX13_openNow 4 = .ok (.ifCond .ge 7, 3) := by decide +kernel
theorem dX13_openNow_7 : decode cX13_openNow 7 = .ok (.iconst (-1), 1) := by decide +kernel
theorem dX13_openNow_8 : decode cX13_openNow 8 = .ok (.goto 12, 3) := by decide +kernel
theorem dX13_openNow_11 : decode cX13_openNow 11 = .ok (.aload_n 0, 1) := by decide +kernel
theorem dX13_openNow_12 : decode cX13_openNow 12 = .ok (.getfield 29, 3) := by decide +kernel
theorem dX13_openNow_15 : decode cX13_openNow 15 = .ok (.aload_n 0, 1) := by decide +kernel
theorem dX13_openNow_16 : decode cX13_openNow 16 = .ok (.invokevirtual 161, 3) := by decide +kernel
theorem dX13_openNow_19 : decode cX13_openNow 19 = .ok (.iaload, 1) := by decide +kernel
theorem dX13_openNow_20 : decode cX13_openNow 20 = .ok (.ireturn, 1) := by decide +kernel
theorem BX13_openNow_0 {d bc bs : Nat} {h : aH} {n : Nat} {Q : aQ} {ar0 : Nat} {f1 : List aV} (h2 : h ar0 = cO 13 f1) (k : Rn d 0 0 mX13_openAt 0 [some (vR (some ar0)), none] [] h n (fun v h1 n1 => Rn (d + 1) bc bs mX13_openNow 4 [some (vR (some ar0))] (v.toList ++ []) h1 n1 Q)) : Rn (d + 1) (bc) (bs) mX13_openNow 0 [some (vR (some ar0))] [] h n Q := by
  refine Rn_aload_n dX13_openNow_0 rfl rfl rfl ?_
  exact Rn_callV (ci := 13) (avs := []) (st := []) (bc1 := 0) (bs1 := 0) (bc2 := bc) (bs2 := bs) fx_X13_openAt dX13_openNow_1 wd_1579 wd_1581 wd_62 rfl h2 rfl (Nat.le_of_ble_eq_true rfl) (Nat.le_of_ble_eq_true rfl) (by omega) (by omega) (ls1 := [some (vR (some ar0)), none]) rfl k
theorem BX13_openNow_4 {d bc bs : Nat} {h : aH} {n : Nat} {Q : aQ} {r0 : Option Nat} {s0 : Int} (kt : 0 ≤ s0 → Rn d bc bs mX13_openNow 11 [some (vR r0)] [] h n Q) (kf : s0 < 0 → Rn d bc bs mX13_openNow 7 [some (vR r0)] [] h n Q) : Rn d (bc) (bs) mX13_openNow 4 [some (vR r0)] [vI s0] h n Q := by
  refine Rn_ifge (tgt := 11) dX13_openNow_4 rfl ?_ ?_
  · exact kt
  · exact kf
theorem BX13_openNow_7 {d bc bs : Nat} {h : aH} {n : Nat} {Q : aQ} {r0 : Option Nat} (k : Q (some (vI (-1))) h n) : Rn d (bc) (bs) mX13_openNow 7 [some (vR r0)] [] h n Q := by
  refine Rn_iconst dX13_openNow_7 rfl ?_
  refine Rn_goto (tgt := 20) dX13_openNow_8 rfl ?_
  exact Rn_ireturn rfl dX13_openNow_20 k
theorem BX13_openNow_11 {d bc bs : Nat} {h : aH} {n : Nat} {Q : aQ} {ar0 : Nat} {f1 : List aV} {t3 : Option Nat} (h2 : h ar0 = cO 13 f1) (g4 : f1[15]? = some (vR t3)) (k : Rn d 0 0 mX13_openAt 0 [some (vR (some ar0)), none] [] h n (fun v h1 n1 => Rn (d + 1) bc bs mX13_openNow 19 [some (vR (some ar0))] (v.toList ++ [vR t3]) h1 n1 Q)) : Rn (d + 1) (bc) (bs) mX13_openNow 11 [some (vR (some ar0))] [] h n Q := by
  refine Rn_aload_n dX13_openNow_11 rfl rfl rfl ?_
  refine Rn_getfield (ci := 13) (k := 15) dX13_openNow_12 rfl in_13 (Nat.le_of_ble_eq_true rfl) wd_1367 rfl h2 g4 ?_
  refine Rn_aload_n dX13_openNow_15 rfl rfl rfl ?_
  exact Rn_callV (ci := 13) (avs := []) (st := [vR t3]) (bc1 := 0) (bs1 := 0) (bc2 := bc) (bs2 := bs) fx_X13_openAt dX13_openNow_16 wd_1579 wd_1581 wd_62 rfl h2 rfl (Nat.le_of_ble_eq_true rfl) (Nat.le_of_ble_eq_true rfl) (by omega) (by omega) (ls1 := [some (vR (some ar0)), none]) rfl k
theorem BX13_openNow_19 {d bc bs : Nat} {h : aH} {n : Nat} {Q : aQ} {r0 : Option Nat} {aq0 : Nat} {s1 v3 : Int} {w1 : List Int} (h2 : h aq0 = cI w1) (i4 : 0 ≤ s1) (g5 : w1[(s1 : Int).toNat]? = some v3) (k : Q (some (vI v3)) h n) : Rn d (bc) (bs) mX13_openNow 19 [some (vR r0)] [vI s1, vR (some aq0)] h n Q := by
  refine Rn_iaload dX13_openNow_19 h2 i4 g5 ?_
  exact Rn_ireturn rfl dX13_openNow_20 k
theorem dX13_isCompared_0 : decode cX13_isCompared 0 = .ok (.aload_n 0, 1) := by decide +kernel
theorem dX13_isCompared_1 : decode cX13_isCompared 1 = .ok (.getfield 148, 3) := by decide +kernel
theorem dX13_isCompared_4 : decode cX13_isCompared 4 = .ok (.iconst 1, 1) := by decide +kernel
theorem dX13_isCompared_5 : decode cX13_isCompared 5 = .ok (.isub, 1) := by decide +kernel
theorem dX13_isCompared_6 : decode cX13_isCompared 6 = .ok (.istore_n 1, 1) := by decide +kernel
theorem dX13_isCompared_7 : decode cX13_isCompared 7 = .ok (.iload_n 1, 1) := by decide +kernel
theorem dX13_isCompared_8 : decode cX13_isCompared 8 = .ok (.ifCond .lt 22, 3) := by decide +kernel
theorem dX13_isCompared_11 : decode cX13_isCompared 11 = .ok (.aload_n 0, 1) := by decide +kernel
theorem dX13_isCompared_12 : decode cX13_isCompared 12 = .ok (.getfield 29, 3) := by decide +kernel
theorem dX13_isCompared_15 : decode cX13_isCompared 15 = .ok (.iload_n 1, 1) := by decide +kernel
theorem dX13_isCompared_16 : decode cX13_isCompared 16 = .ok (.iaload, 1) := by decide +kernel
theorem dX13_isCompared_17 : decode cX13_isCompared 17 = .ok (.invokestatic 151, 3) := by decide +kernel
theorem dX13_isCompared_20 : decode cX13_isCompared 20 = .ok (.iconst 4, 1) := by decide +kernel
theorem dX13_isCompared_21 : decode cX13_isCompared 21 = .ok (.if_icmp .le 9, 3) := by decide +kernel
theorem dX13_isCompared_24 : decode cX13_isCompared 24 = .ok (.iinc 1 (-1), 3) := by decide +kernel
theorem dX13_isCompared_27 : decode cX13_isCompared 27 = .ok (.goto (-20), 3) := by decide +kernel
theorem dX13_isCompared_30 : decode cX13_isCompared 30 = .ok (.iload_n 1, 1) := by decide +kernel
theorem dX13_isCompared_31 : decode cX13_isCompared 31 = .ok (.ifCond .lt 20, 3) := by decide +kernel
theorem dX13_isCompared_34 : decode cX13_isCompared 34 = .ok (.aload_n 0, 1) := by decide +kernel
theorem dX13_isCompared_35 : decode cX13_isCompared 35 = .ok (.getfield 29, 3) := by decide +kernel
theorem dX13_isCompared_38 : decode cX13_isCompared 38 = .ok (.iload_n 1, 1) := by decide +kernel
theorem dX13_isCompared_39 : decode cX13_isCompared 39 = .ok (.iaload, 1) := by decide +kernel
theorem dX13_isCompared_40 : decode cX13_isCompared 40 = .ok (.invokestatic 151, 3) := by decide +kernel
theorem dX13_isCompared_43 : decode cX13_isCompared 43 = .ok (.iconst 4, 1) := by decide +kernel
theorem dX13_isCompared_44 : decode cX13_isCompared 44 = .ok (.if_icmp .ne 7, 3) := by decide +kernel
theorem dX13_isCompared_47 : decode cX13_isCompared 47 = .ok (.iconst 1, 1) := by decide +kernel
theorem dX13_isCompared_48 : decode cX13_isCompared 48 = .ok (.goto 4, 3) := by decide +kernel
theorem dX13_isCompared_51 : decode cX13_isCompared 51 = .ok (.iconst 0, 1) := by decide +kernel
theorem dX13_isCompared_52 : decode cX13_isCompared 52 = .ok (.ireturn, 1) := by decide +kernel
theorem BX13_isCompared_0 {d bc bs : Nat} {h : aH} {n : Nat} {Q : aQ} {ar0 : Nat} {l1 : Option aV} {f1 : List aV} {v3 : Int} (h2 : h ar0 = cO 13 f1) (g4 : f1[16]? = some (vI v3)) (b5 : -2147483648 ≤ v3 - 1 ∧ v3 - 1 < 2147483648) (k : Rn d bc bs mX13_isCompared 7 [some (vR (some ar0)), some (vI (v3 - 1))] [] h n Q) : Rn d (bc) (bs) mX13_isCompared 0 [some (vR (some ar0)), l1] [] h n Q := by
  refine Rn_aload_n dX13_isCompared_0 rfl rfl rfl ?_
  refine Rn_getfield (ci := 13) (k := 16) dX13_isCompared_1 rfl in_13 (Nat.le_of_ble_eq_true rfl) wd_1368 rfl h2 g4 ?_
  refine Rn_iconst dX13_isCompared_4 rfl ?_
  refine Rn_isub dX13_isCompared_5 ?_
  rw [w32_id b5.1 b5.2]
  refine Rn_istore_n dX13_isCompared_6 rfl (Nat.le_of_ble_eq_true rfl) rfl rfl ?_
  exact k
theorem BX13_isCompared_7 {d bc bs : Nat} {h : aH} {n : Nat} {Q : aQ} {r0 : Option Nat} {x1 : Int} (kt : x1 < 0 → Rn d bc bs mX13_isCompared 30 [some (vR r0), some (vI x1)] [] h n Q) (kf : 0 ≤ x1 → Rn d bc bs mX13_isCompared 11 [some (vR r0), some (vI x1)] [] h n Q) : Rn d (bc) (bs) mX13_isCompared 7 [some (vR r0), some (vI x1)] [] h n Q := by
  refine Rn_iload_n dX13_isCompared_7 rfl rfl ?_
  refine Rn_iflt (tgt := 30) dX13_isCompared_8 rfl ?_ ?_
  · exact kt
  · exact kf
theorem BX13_isCompared_11 {d bc bs : Nat} {h : aH} {n : Nat} {Q : aQ} {ar0 at3 : Nat} {x1 v7 : Int} {f1 : List aV} {w5 : List Int} (h2 : h ar0 = cO 13 f1) (g4 : f1[15]? = some (vR (some at3))) (h6 : h at3 = cI w5) (i8 : 0 ≤ x1) (g9 : w5[(x1 : Int).toNat]? = some v7) (k : Rn d 0 0 mX13_rank 0 [some (vI v7)] [] h n (fun v h1 n1 => Rn (d + 1) bc bs mX13_isCompared 20 [some (vR (some ar0)), some (vI x1)] (v.toList ++ []) h1 n1 Q)) : Rn (d + 1) (bc) (bs) mX13_isCompared 11 [some (vR (some ar0)), some (vI x1)] [] h n Q := by
  refine Rn_aload_n dX13_isCompared_11 rfl rfl rfl ?_
  refine Rn_getfield (ci := 13) (k := 15) dX13_isCompared_12 rfl in_13 (Nat.le_of_ble_eq_true rfl) wd_1367 rfl h2 g4 ?_
  refine Rn_iload_n dX13_isCompared_15 rfl rfl ?_
  refine Rn_iaload dX13_isCompared_16 h6 i8 g9 ?_
  exact Rn_callS (avs := [vI v7]) (st := []) (bc1 := 0) (bs1 := 0) (bc2 := bc) (bs2 := bs) fx_X13_rank dX13_isCompared_17 (Or.inl wd_1587) wd_1588 rfl (Nat.le_of_ble_eq_true rfl) (Nat.le_of_ble_eq_true rfl) (by omega) (by omega) (ls1 := [some (vI v7)]) rfl k
theorem BX13_isCompared_20 {d bc bs : Nat} {h : aH} {n : Nat} {Q : aQ} {r0 : Option Nat} {x1 s0 : Int} (kt : s0 ≤ 4 → Rn d bc bs mX13_isCompared 30 [some (vR r0), some (vI x1)] [] h n Q) (kf : 4 < s0 → Rn d bc bs mX13_isCompared 24 [some (vR r0), some (vI x1)] [] h n Q) : Rn d (bc) (bs) mX13_isCompared 20 [some (vR r0), some (vI x1)] [vI s0] h n Q := by
  refine Rn_iconst dX13_isCompared_20 rfl ?_
  refine Rn_icmple (tgt := 30) dX13_isCompared_21 rfl ?_ ?_
  · exact kt
  · exact kf
theorem BX13_isCompared_24 {d bc bs : Nat} {h : aH} {n : Nat} {Q : aQ} {r0 : Option Nat} {x1 : Int} (b1 : -2147483648 ≤ x1 + (-1) ∧ x1 + (-1) < 2147483648) (k : Rn d bc bs mX13_isCompared 7 [some (vR r0), some (vI (x1 + (-1)))] [] h n Q) : Rn d (bc) (bs) mX13_isCompared 24 [some (vR r0), some (vI x1)] [] h n Q := by
  refine Rn_iinc dX13_isCompared_24 rfl (Nat.le_of_ble_eq_true rfl) rfl rfl rfl ?_
  rw [w32_id b1.1 b1.2]
  refine Rn_goto (tgt := 7) dX13_isCompared_27 rfl ?_
  exact k
theorem BX13_isCompared_30 {d bc bs : Nat} {h : aH} {n : Nat} {Q : aQ} {r0 : Option Nat} {x1 : Int} (kt : x1 < 0 → Rn d bc bs mX13_isCompared 51 [some (vR r0), some (vI x1)] [] h n Q) (kf : 0 ≤ x1 → Rn d bc bs mX13_isCompared 34 [some (vR r0), some (vI x1)] [] h n Q) : Rn d (bc) (bs) mX13_isCompared 30 [some (vR r0), some (vI x1)] [] h n Q := by
  refine Rn_iload_n dX13_isCompared_30 rfl rfl ?_
  refine Rn_iflt (tgt := 51) dX13_isCompared_31 rfl ?_ ?_
  · exact kt
  · exact kf
theorem BX13_isCompared_34 {d bc bs : Nat} {h : aH} {n : Nat} {Q : aQ} {ar0 at3 : Nat} {x1 v7 : Int} {f1 : List aV} {w5 : List Int} (h2 : h ar0 = cO 13 f1) (g4 : f1[15]? = some (vR (some at3))) (h6 : h at3 = cI w5) (i8 : 0 ≤ x1) (g9 : w5[(x1 : Int).toNat]? = some v7) (k : Rn d 0 0 mX13_rank 0 [some (vI v7)] [] h n (fun v h1 n1 => Rn (d + 1) bc bs mX13_isCompared 43 [some (vR (some ar0)), some (vI x1)] (v.toList ++ []) h1 n1 Q)) : Rn (d + 1) (bc) (bs) mX13_isCompared 34 [some (vR (some ar0)), some (vI x1)] [] h n Q := by
  refine Rn_aload_n dX13_isCompared_34 rfl rfl rfl ?_
  refine Rn_getfield (ci := 13) (k := 15) dX13_isCompared_35 rfl in_13 (Nat.le_of_ble_eq_true rfl) wd_1367 rfl h2 g4 ?_
  refine Rn_iload_n dX13_isCompared_38 rfl rfl ?_
  refine Rn_iaload dX13_isCompared_39 h6 i8 g9 ?_
  exact Rn_callS (avs := [vI v7]) (st := []) (bc1 := 0) (bs1 := 0) (bc2 := bc) (bs2 := bs) fx_X13_rank dX13_isCompared_40 (Or.inl wd_1587) wd_1588 rfl (Nat.le_of_ble_eq_true rfl) (Nat.le_of_ble_eq_true rfl) (by omega) (by omega) (ls1 := [some (vI v7)]) rfl k
theorem BX13_isCompared_43 {d bc bs : Nat} {h : aH} {n : Nat} {Q : aQ} {r0 : Option Nat} {x1 s0 : Int} (kt : s0 ≠ 4 → Rn d bc bs mX13_isCompared 51 [some (vR r0), some (vI x1)] [] h n Q) (kf : s0 = 4 → Rn d bc bs mX13_isCompared 47 [some (vR r0), some (vI x1)] [] h n Q) : Rn d (bc) (bs) mX13_isCompared 43 [some (vR r0), some (vI x1)] [vI s0] h n Q := by
  refine Rn_iconst dX13_isCompared_43 rfl ?_
  refine Rn_icmpne (tgt := 51) dX13_isCompared_44 rfl ?_ ?_
  · exact kt
  · exact kf
theorem BX13_isCompared_47 {d bc bs : Nat} {h : aH} {n : Nat} {Q : aQ} {r0 : Option Nat} {x1 : Int} (k : Q (some (vI 1)) h n) : Rn d (bc) (bs) mX13_isCompared 47 [some (vR r0), some (vI x1)] [] h n Q := by
  refine Rn_iconst dX13_isCompared_47 rfl ?_
  refine Rn_goto (tgt := 52) dX13_isCompared_48 rfl ?_
  exact Rn_zreturn rfl dX13_isCompared_52 (by decide) k
theorem BX13_isCompared_51 {d bc bs : Nat} {h : aH} {n : Nat} {Q : aQ} {r0 : Option Nat} {x1 : Int} (k : Q (some (vI 0)) h n) : Rn d (bc) (bs) mX13_isCompared 51 [some (vR r0), some (vI x1)] [] h n Q := by
  refine Rn_iconst dX13_isCompared_51 rfl ?_
  exact Rn_zreturn rfl dX13_isCompared_52 (by decide) k
theorem dX13_isAskAhead_0 : decode cX13_isAskAhead 0 = .ok (.aload_n 0, 1) := by decide +kernel
theorem dX13_isAskAhead_1 : decode cX13_isAskAhead 1 = .ok (.invokevirtual 165, 3) := by decide +kernel
theorem dX13_isAskAhead_4 : decode cX13_isAskAhead 4 = .ok (.bipush 42, 2) := by decide +kernel
theorem dX13_isAskAhead_6 : decode cX13_isAskAhead 6 = .ok (.if_icmp .ne 45, 3) := by decide +kernel
theorem dX13_isAskAhead_9 : decode cX13_isAskAhead 9 = .ok (.aload_n 0, 1) := by decide +kernel
theorem dX13_isAskAhead_10 : decode cX13_isAskAhead 10 = .ok (.getfield 29, 3) := by decide +kernel
theorem dX13_isAskAhead_13 : decode cX13_isAskAhead 13 = .ok (.aload_n 0, 1) := by decide +kernel
theorem dX13_isAskAhead_14 : decode cX13_isAskAhead 14 = .ok (.getfield 148, 3) := by decide +kernel
theorem dX13_isAskAhead_17 : decode cX13_isAskAhead 17 = .ok (.iconst 1, 1) := by decide +kernel
theorem dX13_isAskAhead_18 : decode cX13_isAskAhead 18 = .ok (.isub, 1) := by decide +kernel
theorem dX13_isAskAhead_19 : decode cX13_isAskAhead 19 = .ok (.iaload, 1) := by decide +kernel
theorem dX13_isAskAhead_20 : decode cX13_isAskAhead 20 = .ok (.bipush 40, 2) := by decide +kernel
theorem dX13_isAskAhead_22 : decode cX13_isAskAhead 22 = .ok (.if_icmp .ge 25, 3) := by decide +kernel
theorem dX13_isAskAhead_25 : decode cX13_isAskAhead 25 = .ok (.aload_n 0, 1) := by decide +kernel
theorem dX13_isAskAhead_26 : decode cX13_isAskAhead 26 = .ok (.getfield 29, 3) := by decide +kernel
theorem dX13_isAskAhead_29 : decode cX13_isAskAhead 29 = .ok (.aload_n 0, 1) := by decide +kernel
theorem dX13_isAskAhead_30 : decode cX13_isAskAhead 30 = .ok (.getfield 148, 3) := by decide +kernel
theorem dX13_isAskAhead_33 : decode cX13_isAskAhead 33 = .ok (.iconst 1, 1) := by decide +kernel
theorem dX13_isAskAhead_34 : decode cX13_isAskAhead 34 = .ok (.isub, 1) := by decide +kernel
theorem dX13_isAskAhead_35 : decode cX13_isAskAhead 35 = .ok (.iaload, 1) := by decide +kernel
theorem dX13_isAskAhead_36 : decode cX13_isAskAhead 36 = .ok (.invokestatic 151, 3) := by decide +kernel
theorem dX13_isAskAhead_39 : decode cX13_isAskAhead 39 = .ok (.iconst 1, 1) := by decide +kernel
theorem dX13_isAskAhead_40 : decode cX13_isAskAhead 40 = .ok (.iconst 3, 1) := by decide +kernel
theorem dX13_isAskAhead_41 : decode cX13_isAskAhead 41 = .ok (.invokestatic 72, 3) := by decide +kernel
theorem dX13_isAskAhead_44 : decode cX13_isAskAhead 44 = .ok (.ifCond .eq 7, 3) := by decide +kernel
theorem dX13_isAskAhead_47 : decode cX13_isAskAhead 47 = .ok (.iconst 1, 1) := by decide +kernel
theorem dX13_isAskAhead_48 : decode cX13_isAskAhead 48 = .ok (.goto 4, 3) := by decide +kernel
theorem dX13_isAskAhead_51 : decode cX13_isAskAhead 51 = .ok (.iconst 0, 1) := by decide +kernel
theorem dX13_isAskAhead_52 : decode cX13_isAskAhead 52 = .ok (.ireturn, 1) := by decide +kernel
theorem BX13_isAskAhead_0 {d bc bs : Nat} {h : aH} {n : Nat} {Q : aQ} {ar0 : Nat} {f1 : List aV} (h2 : h ar0 = cO 13 f1) (k : Rn d 0 0 mX13_openNow 0 [some (vR (some ar0))] [] h n (fun v h1 n1 => Rn (d + 1) bc bs mX13_isAskAhead 4 [some (vR (some ar0))] (v.toList ++ []) h1 n1 Q)) : Rn (d + 1) (bc) (bs) mX13_isAskAhead 0 [some (vR (some ar0))] [] h n Q := by
  refine Rn_aload_n dX13_isAskAhead_0 rfl rfl rfl ?_
  exact Rn_callV (ci := 13) (avs := []) (st := []) (bc1 := 0) (bs1 := 0) (bc2 := bc) (bs2 := bs) fx_X13_openNow dX13_isAskAhead_1 wd_1575 wd_1577 wd_61 rfl h2 rfl (Nat.le_of_ble_eq_true rfl) (Nat.le_of_ble_eq_true rfl) (by omega) (by omega) (ls1 := [some (vR (some ar0))]) rfl k
theorem BX13_isAskAhead_4 {d bc bs : Nat} {h : aH} {n : Nat} {Q : aQ} {r0 : Option Nat} {s0 : Int} (kt : s0 ≠ 42 → Rn d bc bs mX13_isAskAhead 51 [some (vR r0)] [] h n Q) (kf : s0 = 42 → Rn d bc bs mX13_isAskAhead 9 [some (vR r0)] [] h n Q) : Rn d (bc) (bs) mX13_isAskAhead 4 [some (vR r0)] [vI s0] h n Q := by
  refine Rn_bipush dX13_isAskAhead_4 rfl ?_
  refine Rn_icmpne (tgt := 51) dX13_isAskAhead_6 rfl ?_ ?_
  · exact kt
  · exact kf
theorem BX13_isAskAhead_9 {d bc bs : Nat} {h : aH} {n : Nat} {Q : aQ} {ar0 at3 : Nat} {f1 : List aV} {v5 v10 : Int} {w8 : List Int} (h2 : h ar0 = cO 13 f1) (g4 : f1[15]? = some (vR (some at3))) (g6 : f1[16]? = some (vI v5)) (b7 : -2147483648 ≤ v5 - 1 ∧ v5 - 1 < 2147483648) (h9 : h at3 = cI w8) (i11 : 0 ≤ v5 - 1) (g12 : w8[(v5 - 1 : Int).toNat]? = some v10) (kt : 40 ≤ v10 → Rn d bc bs mX13_isAskAhead 47 [some (vR (some ar0))] [] h n Q) (kf : v10 < 40 → Rn d bc bs mX13_isAskAhead 25 [some (vR (some ar0))] [] h n Q) : Rn d (bc) (bs) mX13_isAskAhead 9 [some (vR (some ar0))] [] h n Q := by
  refine Rn_aload_n dX13_isAskAhead_9 rfl rfl rfl ?_
  refine Rn_getfield (ci := 13) (k := 15) dX13_isAskAhead_10 rfl in_13 (Nat.le_of_ble_eq_true rfl) wd_1367 rfl h2 g4 ?_
  refine Rn_aload_n dX13_isAskAhead_13 rfl rfl rfl ?_
  refine Rn_getfield (ci := 13) (k := 16) dX13_isAskAhead_14 rfl in_13 (Nat.le_of_ble_eq_true rfl) wd_1368 rfl h2 g6 ?_
  refine Rn_iconst dX13_isAskAhead_17 rfl ?_
  refine Rn_isub dX13_isAskAhead_18 ?_
  rw [w32_id b7.1 b7.2]
  refine Rn_iaload dX13_isAskAhead_19 h9 i11 g12 ?_
  refine Rn_bipush dX13_isAskAhead_20 rfl ?_
  refine Rn_icmpge (tgt := 47) dX13_isAskAhead_22 rfl ?_ ?_
  · exact kt
  · exact kf
theorem BX13_isAskAhead_25 {d bc bs : Nat} {h : aH} {n : Nat} {Q : aQ} {ar0 at3 : Nat} {f1 : List aV} {v5 v10 : Int} {w8 : List Int} (h2 : h ar0 = cO 13 f1) (g4 : f1[15]? = some (vR (some at3))) (g6 : f1[16]? = some (vI v5)) (b7 : -2147483648 ≤ v5 - 1 ∧ v5 - 1 < 2147483648) (h9 : h at3 = cI w8) (i11 : 0 ≤ v5 - 1) (g12 : w8[(v5 - 1 : Int).toNat]? = some v10) (k : Rn d 0 0 mX13_rank 0 [some (vI v10)] [] h n (fun v h1 n1 => Rn (d + 1) bc bs mX13_isAskAhead 39 [some (vR (some ar0))] (v.toList ++ []) h1 n1 Q)) : Rn (d + 1) (bc) (bs) mX13_isAskAhead 25 [some (vR (some ar0))] [] h n Q := by
  refine Rn_aload_n dX13_isAskAhead_25 rfl rfl rfl ?_
  refine Rn_getfield (ci := 13) (k := 15) dX13_isAskAhead_26 rfl in_13 (Nat.le_of_ble_eq_true rfl) wd_1367 rfl h2 g4 ?_
  refine Rn_aload_n dX13_isAskAhead_29 rfl rfl rfl ?_
  refine Rn_getfield (ci := 13) (k := 16) dX13_isAskAhead_30 rfl in_13 (Nat.le_of_ble_eq_true rfl) wd_1368 rfl h2 g6 ?_
  refine Rn_iconst dX13_isAskAhead_33 rfl ?_
  refine Rn_isub dX13_isAskAhead_34 ?_
  rw [w32_id b7.1 b7.2]
  refine Rn_iaload dX13_isAskAhead_35 h9 i11 g12 ?_
  exact Rn_callS (avs := [vI v10]) (st := []) (bc1 := 0) (bs1 := 0) (bc2 := bc) (bs2 := bs) fx_X13_rank dX13_isAskAhead_36 (Or.inl wd_1587) wd_1588 rfl (Nat.le_of_ble_eq_true rfl) (Nat.le_of_ble_eq_true rfl) (by omega) (by omega) (ls1 := [some (vI v10)]) rfl k
theorem BX13_isAskAhead_39 {d bc bs : Nat} {h : aH} {n : Nat} {Q : aQ} {r0 : Option Nat} {s0 : Int} (k : Rn d 0 0 mX13_isIn 0 [some (vI s0), some (vI 1), some (vI 3)] [] h n (fun v h1 n1 => Rn (d + 1) bc bs mX13_isAskAhead 44 [some (vR r0)] (v.toList ++ []) h1 n1 Q)) : Rn (d + 1) (bc) (bs) mX13_isAskAhead 39 [some (vR r0)] [vI s0] h n Q := by
  refine Rn_iconst dX13_isAskAhead_39 rfl ?_
  refine Rn_iconst dX13_isAskAhead_40 rfl ?_
  exact Rn_callS (avs := [vI s0, vI 1, vI 3]) (st := []) (bc1 := 0) (bs1 := 0) (bc2 := bc) (bs2 := bs) fx_X13_isIn dX13_isAskAhead_41 (Or.inl wd_1463) wd_1464 rfl (Nat.le_of_ble_eq_true rfl) (Nat.le_of_ble_eq_true rfl) (by omega) (by omega) (ls1 := [some (vI s0), some (vI 1), some (vI 3)]) rfl k
theorem BX13_isAskAhead_44 {d bc bs : Nat} {h : aH} {n : Nat} {Q : aQ} {r0 : Option Nat} {s0 : Int} (kt : s0 = 0 → Rn d bc bs mX13_isAskAhead 51 [some (vR r0)] [] h n Q) (kf : s0 ≠ 0 → Rn d bc bs mX13_isAskAhead 47 [some (vR r0)] [] h n Q) : Rn d (bc) (bs) mX13_isAskAhead 44 [some (vR r0)] [vI s0] h n Q := by
  refine Rn_ifeq (tgt := 51) dX13_isAskAhead_44 rfl ?_ ?_
  · exact kt
  · exact kf
theorem BX13_isAskAhead_47 {d bc bs : Nat} {h : aH} {n : Nat} {Q : aQ} {r0 : Option Nat} (k : Q (some (vI 1)) h n) : Rn d (bc) (bs) mX13_isAskAhead 47 [some (vR r0)] [] h n Q := by
  refine Rn_iconst dX13_isAskAhead_47 rfl ?_
  refine Rn_goto (tgt := 52) dX13_isAskAhead_48 rfl ?_
  exact Rn_zreturn rfl dX13_isAskAhead_52 (by decide) k
theorem BX13_isAskAhead_51 {d bc bs : Nat} {h : aH} {n : Nat} {Q : aQ} {r0 : Option Nat} (k : Q (some (vI 0)) h n) : Rn d (bc) (bs) mX13_isAskAhead 51 [some (vR r0)] [] h n Q := by
  refine Rn_iconst dX13_isAskAhead_51 rfl ?_
  exact Rn_zreturn rfl dX13_isAskAhead_52 (by decide) k
