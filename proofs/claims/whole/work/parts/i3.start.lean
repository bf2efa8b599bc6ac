/-! The start: what the tables and the premises say of it. -/
theorem tb1 {w : Cond} (i : Nat) (h : tables_1_1[i]? = some w) : w ∈ lw_tbl := List.mem_append_right _ (List.mem_append_left _ (List.mem_of_getElem? h))
theorem tb2 {w : Cond} (i : Nat) (h : tables_1_2[i]? = some w) : w ∈ lw_tbl := List.mem_append_right _ (List.mem_append_right _ (List.mem_append_left _ (List.mem_of_getElem? h)))
theorem tb3 {w : Cond} (i : Nat) (h : tables_1_3[i]? = some w) : w ∈ lw_tbl := List.mem_append_right _ (List.mem_append_right _ (List.mem_append_right _ (List.mem_append_left _ (List.mem_of_getElem? h))))
theorem tb4 {w : Cond} (i : Nat) (h : tables_1_4[i]? = some w) : w ∈ lw_tbl := List.mem_append_right _ (List.mem_append_right _ (List.mem_append_right _ (List.mem_append_right _ (List.mem_append_left _ (List.mem_of_getElem? h)))))
theorem tb5 {w : Cond} (i : Nat) (h : tables_1_5[i]? = some w) : w ∈ lw_tbl := List.mem_append_right _ (List.mem_append_right _ (List.mem_append_right _ (List.mem_append_right _ (List.mem_append_right _ (List.mem_append_left _ (List.mem_of_getElem? h))))))
theorem tb6 {w : Cond} (i : Nat) (h : tables_1_6[i]? = some w) : w ∈ lw_tbl := List.mem_append_right _ (List.mem_append_right _ (List.mem_append_right _ (List.mem_append_right _ (List.mem_append_right _ (List.mem_append_right _ (List.mem_append_left _ (List.mem_of_getElem? h)))))))
theorem tb7 {w : Cond} (i : Nat) (h : tables_1_7[i]? = some w) : w ∈ lw_tbl := List.mem_append_right _ (List.mem_append_right _ (List.mem_append_right _ (List.mem_append_right _ (List.mem_append_right _ (List.mem_append_right _ (List.mem_append_right _ (List.mem_append_left _ (List.mem_of_getElem? h))))))))
theorem tb8 {w : Cond} (i : Nat) (h : tables_1_8[i]? = some w) : w ∈ lw_tbl := List.mem_append_right _ (List.mem_append_right _ (List.mem_append_right _ (List.mem_append_right _ (List.mem_append_right _ (List.mem_append_right _ (List.mem_append_right _ (List.mem_append_right _ (List.mem_of_getElem? h))))))))
theorem nest_in : ∀ w ∈ aNest, Cond.methodLinkNest w.1 w.2.1 w.2.2.1 w.2.2.2 ∈ lw_tbl := (List.forall_mem_cons.mpr ⟨tb1 32 rfl, (List.forall_mem_cons.mpr ⟨tb1 42 rfl, (List.forall_mem_cons.mpr ⟨tb1 63 rfl, (List.forall_mem_cons.mpr ⟨tb1 69 rfl, (List.forall_mem_cons.mpr ⟨tb1 111 rfl, (List.forall_mem_cons.mpr ⟨tb1 122 rfl, (List.forall_mem_cons.mpr ⟨tb1 201 rfl, (List.forall_mem_cons.mpr ⟨tb1 230 rfl, (List.forall_mem_cons.mpr ⟨tb2 29 rfl, (List.forall_mem_cons.mpr ⟨tb2 42 rfl, (List.forall_mem_cons.mpr ⟨tb2 72 rfl, (List.forall_mem_cons.mpr ⟨tb2 98 rfl, (List.forall_mem_cons.mpr ⟨tb2 138 rfl, (List.forall_mem_cons.mpr ⟨tb2 144 rfl, (List.forall_mem_cons.mpr ⟨tb2 165 rfl, (List.forall_mem_cons.mpr ⟨tb3 39 rfl, (List.forall_mem_cons.mpr ⟨tb3 140 rfl, (List.forall_mem_cons.mpr ⟨tb3 200 rfl, (List.forall_mem_cons.mpr ⟨tb3 209 rfl, (List.forall_mem_cons.mpr ⟨tb4 125 rfl, (List.forall_mem_cons.mpr ⟨tb4 182 rfl, (List.forall_mem_cons.mpr ⟨tb5 24 rfl, (List.forall_mem_cons.mpr ⟨tb5 29 rfl, (List.forall_mem_cons.mpr ⟨tb5 34 rfl, (List.forall_mem_cons.mpr ⟨tb5 47 rfl, (List.forall_mem_cons.mpr ⟨tb5 56 rfl, (List.forall_mem_cons.mpr ⟨tb5 83 rfl, (List.forall_mem_cons.mpr ⟨tb5 120 rfl, (List.forall_mem_cons.mpr ⟨tb5 121 rfl, (List.forall_mem_cons.mpr ⟨tb5 154 rfl, (List.forall_mem_cons.mpr ⟨tb6 7 rfl, (List.forall_mem_cons.mpr ⟨tb6 17 rfl, (fun _ h => nomatch h)⟩)⟩)⟩)⟩)⟩)⟩)⟩)⟩)⟩)⟩)⟩)⟩)⟩)⟩)⟩)⟩)⟩)⟩)⟩)⟩)⟩)⟩)⟩)⟩)⟩)⟩)⟩)⟩)⟩)⟩)⟩)⟩)
abbrev tmW : Term := .string "BottledPost$Tape" 65
set_option maxRecDepth 100000 in
theorem st_flat : (flatC (Jvm.Cond.and given_1 narrow_1)).drop 41 = (List.range 129).map fun j => Cond.eq (.elem (.field tmW "java/lang/String" "value" "[B") (.int (Int32.ofNat j))) (.int (aWordsB.getD j 0)) := by decide +kernel
theorem st_el {j : Nat} (hj : j < 129) : Cond.eq (.elem (.field tmW "java/lang/String" "value" "[B") (.int (Int32.ofNat j))) (.int (aWordsB.getD j 0)) ∈ flatC (Jvm.Cond.and given_1 narrow_1) := by
  refine List.mem_of_mem_drop (i := 41) ?_
  rw [st_flat]
  exact List.mem_map.mpr ⟨j, List.mem_range.mpr hj, rfl⟩
theorem st_text {b : Nat} {s : State} (hs : ∀ w ∈ flatC (Jvm.Cond.and given_1 narrow_1), w.before #[Value.ref b] s = true) {A : Nat → Prop} (hA : ∀ a : Nat, a < s.heap.size → ¬ A a) : ∃ t tb : Nat, vk_S 1 [129] [aWordsB] (fun _ => t) (fun _ => tb) A s s.heap ∧ tmW.eval #[Value.ref b] s none [] s = some (.ref t) := by
  obtain ⟨aK, aV, h1, h2⟩ := vk_Sof (args := #[Value.ref b]) (s := s) (N := 1) (tm := fun _ => tmW) (len := [129]) (byt := [aWordsB]) (A := A) (show ∀ i : Nat, i < 1 → [129].getD i 0 < 2 ^ 31 by decide) (fun i _ => hs _ (List.mem_of_getElem? (i := 37) (by decide +kernel))) (fun i _ => hs _ (List.mem_of_getElem? (i := 38) (by decide +kernel))) (fun i _ => hs _ (List.mem_of_getElem? (i := 39) (by decide +kernel))) (fun i hi => by
      obtain rfl : i = 0 := by omega
      exact hs (.eq (.length (.field tmW "java/lang/String" "value" "[B")) (.int 129)) (List.mem_of_getElem? (i := 40) (by decide +kernel))) (fun i hi j hj => by
      obtain rfl : i = 0 := by omega
      exact hs _ (st_el hj)) (fun i j hi hj q => absurd (show i = j by omega) q) hA
  exact ⟨aK 0, aV 0, ⟨fun i hi => by
    obtain rfl : i = 0 := by omega
    exact h1.1 0 hi, fun i j hi hj _ => by omega⟩, h2 0 (by decide)⟩
theorem st_classes {s : State} {args : Array Value} (htg : ∀ w ∈ aGT, w.before args s = true) : ∃ (dC : Nat → ClassId) (dI : Nat → Nat → Nat), ∀ (k : Nat) (q : vw_C), vwCl[k]? = some q → u_Kn s q.1 q.2.1 q.2.2 (dC k) (dI k) := by
  obtain ⟨c0, i0, k0⟩ := u_known (C := RX0) (T := TX0) (N := 2) (n := 2) htg in_0 (htg _ wd_189)
  obtain ⟨c1, i1, k1⟩ := u_known (C := RX1) (T := TX1) (N := 10) (n := 10) htg in_1 (htg _ wd_350)
  obtain ⟨c2, i2, k2⟩ := u_known (C := RX2) (T := TX2) (N := 2) (n := 2) htg in_2 (htg _ wd_389)
  obtain ⟨c3, i3, k3⟩ := u_known (C := RX3) (T := TX3) (N := 6) (n := 6) htg in_3 (htg _ wd_432)
  obtain ⟨c4, i4, k4⟩ := u_known (C := RX4) (T := TX4) (N := 7) (n := 7) htg in_4 (htg _ wd_402)
  obtain ⟨c5, i5, k5⟩ := u_known (C := RX5) (T := TX5) (N := 12) (n := 12) htg in_5 (htg _ wd_242)
  obtain ⟨c6, i6, k6⟩ := u_known (C := RX6) (T := TX6) (N := 5) (n := 5) htg in_6 (htg _ wd_183)
  obtain ⟨c7, i7, k7⟩ := u_known (C := RX7) (T := TX7) (N := 4) (n := 4) htg in_7 (htg _ wd_158)
  obtain ⟨c8, i8, k8⟩ := u_known (C := RX8) (T := TX8) (N := 2) (n := 2) htg in_8 (htg _ wd_225)
  obtain ⟨c9, i9, k9⟩ := u_known (C := RX9) (T := TX9) (N := 6) (n := 6) htg in_9 (htg _ wd_321)
  obtain ⟨c10, i10, k10⟩ := u_known (C := RX10) (T := TX10) (N := 3) (n := 3) htg in_10 (htg _ wd_743)
  obtain ⟨c11, i11, k11⟩ := u_known (C := RX11) (T := TX11) (N := 7) (n := 7) htg in_11 (htg _ wd_152)
  obtain ⟨c12, i12, k12⟩ := u_known (C := RX12) (T := TX12) (N := 10) (n := 10) htg in_12 (htg _ wd_144)
  obtain ⟨c13, i13, k13⟩ := u_known (C := RX13) (T := TX13) (N := 34) (n := 34) htg in_13 (htg _ wd_1344)
  refine ⟨fun k => [c0, c1, c2, c3, c4, c5, c6, c7, c8, c9, c10, c11, c12, c13].getD k c0, fun k => [i0, i1, i2, i3, i4, i5, i6, i7, i8, i9, i10, i11, i12, i13].getD k i0, ?_⟩
  intro k q hq
  match k, hq with
  | 0, hq => cases hq; exact k0
  | 1, hq => cases hq; exact k1
  | 2, hq => cases hq; exact k2
  | 3, hq => cases hq; exact k3
  | 4, hq => cases hq; exact k4
  | 5, hq => cases hq; exact k5
  | 6, hq => cases hq; exact k6
  | 7, hq => cases hq; exact k7
  | 8, hq => cases hq; exact k8
  | 9, hq => cases hq; exact k9
  | 10, hq => cases hq; exact k10
  | 11, hq => cases hq; exact k11
  | 12, hq => cases hq; exact k12
  | 13, hq => cases hq; exact k13
  | k + 14, hq => exact absurd hq (by rw [List.getElem?_eq_none (by show 14 ≤ k + 14; omega)]; exact fun h => nomatch h)
theorem st_facts {b L : Nat} {xs : Nat → Int32} {s : State} (hts : ∀ w ∈ lw_tbl, w.before #[Value.ref b] s = true) (hX : va_X b L xs s s.heap) (hbl : b < s.heap.size) (hgv : (Jvm.Cond.and given_1 narrow_1).before #[Value.ref b] s = true) : ∃ g : aG, gb g = b ∧ gL g = L ∧ gxs g = xs ∧ s.heap.size = gB g + 1 ∧ aKF g s s.heap := by
  have hs := flat_of_before _ hgv
  obtain ⟨B, hB⟩ : ∃ B, s.heap.size = B + 1 := ⟨s.heap.size - 1, by omega⟩
  have hA : ∀ a : Nat, a < s.heap.size → ¬ (B < a) := by omega
  obtain ⟨t, tb, hT, hTe⟩ := st_text hs (A := fun q => B < q) hA
  have htg : ∀ w ∈ aGT, w.before #[Value.ref b] s = true := fun w hw => hts w (List.mem_filter.mp hw).1
  obtain ⟨dC, dI, hK⟩ := st_classes htg
  exact ⟨(b, B, t, tb, L, xs, (dC, dI)), rfl, rfl, rfl, hB, ⟨hK, fun k q h => by simp at h⟩, fun w hw => va_Nw.of rfl (hts _ (nest_in w hw)), va_AO.of (hts _ (tb1 110 rfl)), va_AO.of (hts _ (tb1 170 rfl)), hX, (show b ≤ B by omega), hT, vk_R.of (hts _ (tb2 207 rfl)) hTe,
    va_Zof (hts _ (tb2 217 rfl)) (hts _ (tb1 15 rfl)) (va_eqt (hs _ (List.mem_of_getElem? (i := 4) (by decide +kernel)))) hA, va_Zqof (hts _ (tb2 233 rfl)) (hts _ (tb1 17 rfl)) (hs _ (List.mem_of_getElem? (i := 5) (by decide +kernel))) hA, va_Nw.of rfl (hts _ (tb3 126 rfl))⟩
