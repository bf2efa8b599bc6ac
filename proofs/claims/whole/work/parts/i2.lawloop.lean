/-! The law's loop, the whole law. -/
section LAWLOOP
variable {d L : Nat} {Q : aQ} {f : Int → Int}
theorem law_loop (hL : L ≤ 3072) (k : ∀ h n, Q (some (vI 1)) h n) : ∀ (m : Nat) (i : Int) (h : aH) (n : Nat) (W V : Int → Int → Int) (X : Int → Tx) (F : Int → Int) (cm : Int), m ≤ 512 → 0 ≤ i → i ≤ 4000 → (L : Int) - i < 6 * m + 6 → 317 ≤ n → IsPo h h W V X F → IsMo h h W V X F BZ 1 cm → Inv W V X F → (0 ≤ cm ∧ cm + 720 * m ≤ 400000) → h 0 = cI (Ls L f) → Rn (d + 200) (4 * m) (2103 * m) mL_law 18 [some (vR (some 0)), some (vR (some 1)), some (vR (some 301)), some (vI i)] [] h n Q := by
  intro m
  induction m with
  | zero =>
    intro i h n W V X F cm m5 i0 i4 im hn s mo v hc hs
    refine BL_law_18 hs (by rw [Ls_len]; omega) rfl (by rw [Ls_len]; omega) (fun _ => ?_) (fun w => by exfalso; rw [Ls_len] at w; omega)
    exact BL_law_1582 (k h n)
  | succ m ih =>
    intro i h n W V X F cm m5 i0 i4 im hn s mo v hc hs
    have nx : ∀ i : Int, 0 ≤ i → i + 6 ≤ L → (L : Int) - i < 6 * ((m : Int) + 1) + 6 → NX d m f L i Q := by
      intro i i0 i1 im h2 n2 W2 V2 X2 F2 cm2 hn2 s2 mo2 v2 hc2 hs2
      refine BL_law_1576 (by omega) ?_
      exact ih (i + 6) h2 n2 W2 V2 X2 F2 cm2 (by omega) (by omega) (by omega) (by omega) hn2 s2 mo2 v2 hc2 hs2
    refine BL_law_18 hs (by rw [Ls_len]; omega) rfl (by rw [Ls_len]; omega) (fun _ => ?_) (fun w => ?_)
    · exact BL_law_1582 (k h n)
    · rw [Ls_len] at w
      have i1 : i + 6 ≤ L := by omega
      have nx := nx i i0 i1 (by omega)
      obtain ⟨c0, c1⟩ := hc
      have c1 : cm + 720 * ((m : Int) + 1) ≤ 400000 := by omega
      have m6 : m ≤ 511 := by omega
      refine BL_law_27 hs (by omega) (Ls_get (by omega) (by omega)) (fun _ => ?_) (fun _ => ?_) (fun _ => ?_) (fun _ => ?_) (fun _ => ?_) (fun _ => ?_) (fun _ => ?_) (fun _ => ?_) (fun _ => ?_) (fun _ => ?_) (fun _ => ?_) (fun _ => ?_) (fun _ => ?_) (fun _ => ?_) (fun _ => ?_) (fun _ => ?_) (fun _ => ?_) (fun _ => ?_) (fun _ => ?_) (fun _ => ?_) (fun _ => ?_) (fun _ => ?_) (fun _ => ?_) (fun _ => ?_) (fun _ => ?_) (fun _ => ?_) (fun _ => ?_) (fun _ => ?_) (fun _ => ?_) (fun _ => ?_) (fun _ => ?_) (fun _ => ?_) (fun _ => ?_) (fun _ => ?_) (fun _ => ?_) (fun _ => ?_) (fun _ => ?_) (fun _ => ?_) (fun _ => ?_) (fun _ => ?_) (fun _ => ?_) (fun _ => ?_) (fun _ => ?_) (fun _ => ?_) (fun _ => ?_) (fun _ => ?_) (fun _ => ?_) (fun _ => ?_)
      · refine Rn.rich (bc := 4 * m) (bs := 2103 * m) (by omega) (by omega) ?_
        exact nx h n W V X F cm hn s mo v ⟨c0, by omega⟩ hs
      · refine Rn.rich (bc := 4 * m) (bs := 2103 * m) (by omega) (by omega) ?_
        exact lw9_person nx hL m6 i0 i1 hn s mo v c0 c1 hs
      · refine Rn.rich (bc := 4 * m) (bs := 2103 * m) (by omega) (by omega) ?_
        exact lw9_current nx hL m6 i0 i1 hn s mo v c0 c1 hs
      · refine Rn.rich (bc := 4 * m) (bs := 2103 * m) (by omega) (by omega) ?_
        exact lw9_feed nx hL m6 i0 i1 hn s mo v c0 c1 hs
      · refine Rn.rich (bc := 4 * m) (bs := 2103 * m) (by omega) (by omega) ?_
        exact lw9_end nx hL m6 i0 i1 hn s mo v c0 c1 hs
      · refine Rn.rich (bc := 4 + 4 * m) (bs := 2103 + 2103 * m) (by omega) (by omega) ?_
        exact lw9_text nx hL m6 i0 i1 hn s mo v c0 c1 hs
      · refine Rn.rich (bc := 4 * m) (bs := 2103 * m) (by omega) (by omega) ?_
        exact lw9_fault nx hL m6 i0 i1 hn s mo v c0 c1 hs
      · refine Rn.rich (bc := 4 * m) (bs := 2103 * m) (by omega) (by omega) ?_
        exact lw9_by nx hL m6 i0 i1 hn s mo v c0 c1 hs
      · refine Rn.rich (bc := 4 * m) (bs := 2103 * m) (by omega) (by omega) ?_
        exact lw9_toss nx hL m6 i0 i1 hn s mo v c0 c1 hs
      · refine Rn.rich (bc := 4 * m) (bs := 2103 * m) (by omega) (by omega) ?_
        exact lw9_fish nx hL m6 i0 i1 hn s mo v c0 c1 hs
      · refine Rn.rich (bc := 4 * m) (bs := 2103 * m) (by omega) (by omega) ?_
        exact lw9_again nx hL m6 i0 i1 hn s mo v c0 c1 hs
      · refine Rn.rich (bc := 4 * m) (bs := 2103 * m) (by omega) (by omega) ?_
        exact lw9_tide nx hL m6 i0 i1 hn s mo v c0 c1 hs
      · refine Rn.rich (bc := 4 * m) (bs := 2103 * m) (by omega) (by omega) ?_
        exact lw9_played nx hL m6 i0 i1 hn s mo v c0 c1 hs
      · refine Rn.rich (bc := 4 * m) (bs := 2103 * m) (by omega) (by omega) ?_
        exact lw9_years nx hL m6 i0 i1 hn s mo v c0 c1 hs
      · refine Rn.rich (bc := 4 * m) (bs := 2103 * m) (by omega) (by omega) ?_
        exact lw9_undo nx hL m6 i0 i1 hn s mo v c0 c1 hs
      · refine Rn.rich (bc := 4 * m) (bs := 2103 * m) (by omega) (by omega) ?_
        exact lw9_of nx hL m6 i0 i1 hn s mo v c0 c1 hs
      · refine Rn.rich (bc := 4 * m) (bs := 2103 * m) (by omega) (by omega) ?_
        exact lw9_ofBottle nx hL m6 i0 i1 hn s mo v c0 c1 hs
      · refine Rn.rich (bc := 4 * m) (bs := 2103 * m) (by omega) (by omega) ?_
        exact lw9_told nx hL m6 i0 i1 hn s mo v c0 c1 hs
      · refine Rn.rich (bc := 4 * m) (bs := 2103 * m) (by omega) (by omega) ?_
        exact lw9_is nx hL m6 i0 i1 hn s mo v c0 c1 hs
      · refine Rn.rich (bc := 4 * m) (bs := 2103 * m) (by omega) (by omega) ?_
        exact lw9_book nx hL m6 i0 i1 hn s mo v c0 c1 hs
      · refine Rn.rich (bc := 4 * m) (bs := 2103 * m) (by omega) (by omega) ?_
        exact lw9_foretold nx hL m6 i0 i1 hn s mo v c0 c1 hs
      · refine Rn.rich (bc := 4 * m) (bs := 2103 * m) (by omega) (by omega) ?_
        exact lw9_ends nx hL m6 i0 i1 hn s mo v c0 c1 hs
      · refine Rn.rich (bc := 4 * m) (bs := 2103 * m) (by omega) (by omega) ?_
        exact lw9_drift nx hL m6 i0 i1 hn s mo v c0 c1 hs
      · refine Rn.rich (bc := 4 * m) (bs := 2103 * m) (by omega) (by omega) ?_
        exact lw9_soonest nx hL m6 i0 i1 hn s mo v c0 c1 hs
      · refine Rn.rich (bc := 4 * m) (bs := 2103 * m) (by omega) (by omega) ?_
        exact lw9_relay nx hL m6 i0 i1 hn s mo v c0 c1 hs
      · refine Rn.rich (bc := 4 * m) (bs := 2103 * m) (by omega) (by omega) ?_
        exact lw9_found nx hL m6 i0 i1 hn s mo v c0 c1 hs
      · refine Rn.rich (bc := 4 * m) (bs := 2103 * m) (by omega) (by omega) ?_
        exact lw9_tossed nx hL m6 i0 i1 hn s mo v c0 c1 hs
      · refine Rn.rich (bc := 4 * m) (bs := 2103 * m) (by omega) (by omega) ?_
        exact lw9_likely nx hL m6 i0 i1 hn s mo v c0 c1 hs
      · refine Rn.rich (bc := 4 * m) (bs := 2103 * m) (by omega) (by omega) ?_
        exact lw9_odds nx hL m6 i0 i1 hn s mo v c0 c1 hs
      · refine Rn.rich (bc := 4 * m) (bs := 2103 * m) (by omega) (by omega) ?_
        exact lw9_code nx hL m6 i0 i1 hn s mo v c0 c1 hs
      · refine Rn.rich (bc := 4 * m) (bs := 2103 * m) (by omega) (by omega) ?_
        exact lw9_clear nx hL m6 i0 i1 hn s mo v c0 c1 hs
      · refine Rn.rich (bc := 4 * m) (bs := 2103 * m) (by omega) (by omega) ?_
        exact lw9_reads nx hL m6 i0 i1 hn s mo v c0 c1 hs
      · refine Rn.rich (bc := 4 * m) (bs := 2103 * m) (by omega) (by omega) ?_
        exact lw9_halves nx hL m6 i0 i1 hn s mo v c0 c1 hs
      · refine Rn.rich (bc := 4 * m) (bs := 2103 * m) (by omega) (by omega) ?_
        exact lw9_sorters nx hL m6 i0 i1 hn s mo v c0 c1 hs
      · refine Rn.rich (bc := 4 * m) (bs := 2103 * m) (by omega) (by omega) ?_
        exact lw9_sorter nx hL m6 i0 i1 hn s mo v c0 c1 hs
      · refine Rn.rich (bc := 4 * m) (bs := 2103 * m) (by omega) (by omega) ?_
        exact lw9_writes nx hL m6 i0 i1 hn s mo v c0 c1 hs
      · refine Rn.rich (bc := 4 * m) (bs := 2103 * m) (by omega) (by omega) ?_
        exact lw9_orders nx hL m6 i0 i1 hn s mo v c0 c1 hs
      · refine Rn.rich (bc := 4 * m) (bs := 2103 * m) (by omega) (by omega) ?_
        exact lw9_sure nx hL m6 i0 i1 hn s mo v c0 c1 hs
      · refine Rn.rich (bc := 4 * m) (bs := 2103 * m) (by omega) (by omega) ?_
        exact lw9_said nx hL m6 i0 i1 hn s mo v c0 c1 hs
      · refine Rn.rich (bc := 4 * m) (bs := 2103 * m) (by omega) (by omega) ?_
        exact lw9_whose nx hL m6 i0 i1 hn s mo v c0 c1 hs
      · refine Rn.rich (bc := 4 * m) (bs := 2103 * m) (by omega) (by omega) ?_
        exact lw9_luckiest nx hL m6 i0 i1 hn s mo v c0 c1 hs
      · refine Rn.rich (bc := 4 * m) (bs := 2103 * m) (by omega) (by omega) ?_
        exact lw9_eldest nx hL m6 i0 i1 hn s mo v c0 c1 hs
      · refine Rn.rich (bc := 4 * m) (bs := 2103 * m) (by omega) (by omega) ?_
        exact lw9_crowd nx hL m6 i0 i1 hn s mo v c0 c1 hs
      · refine Rn.rich (bc := 4 * m) (bs := 2103 * m) (by omega) (by omega) ?_
        exact lw9_empty nx hL m6 i0 i1 hn s mo v c0 c1 hs
      · refine Rn.rich (bc := 4 * m) (bs := 2103 * m) (by omega) (by omega) ?_
        exact lw9_ledger nx hL m6 i0 i1 hn s mo v c0 c1 hs
      · refine Rn.rich (bc := 4 * m) (bs := 2103 * m) (by omega) (by omega) ?_
        exact lw9_image nx hL m6 i0 i1 hn s mo v c0 c1 hs
      · refine Rn.rich (bc := 4 * m) (bs := 2103 * m) (by omega) (by omega) ?_
        exact lw9_back nx hL m6 i0 i1 hn s mo v c0 c1 hs
      · refine Rn.rich (bc := 4 * m) (bs := 2103 * m) (by omega) (by omega) ?_
        exact lw9_about nx hL m6 i0 i1 hn s mo v c0 c1 hs
theorem law_body {h : aH} (hL : L ≤ 3072) (hs : h 0 = cI (Ls L f)) (k : ∀ h n, Q (some (vI 1)) h n) : Rn (d + 200) (1 + (299 + (1 + (15 + 2048)))) (10 + (14184 + (34 + (12091 + 1076736)))) mL_law 0 [some (vR (some 0)), none, none, none] [] h 1 Q := by
  refine Rn.rich (bc := (299 + ((15 + 2048) + 1)) + 1) (bs := (14184 + ((12091 + 1076736) + 34)) + 10) (by omega) (by omega) ?_
  refine BL_law_0 (bc := 299 + ((15 + 2048) + 1)) (bs := 14184 + ((12091 + 1076736) + 34)) ?_
  have hh0 : up h 1 (cO 12 [vR none, vR none, vR none, vR none, vR none, vR none, vR none, vR none, vI 0, vI 0]) 1 = _ := up_at _ _ _
  refine BL_law_3 (bc1 := 299) (bs1 := 14184) (bc := (15 + 2048) + 1) (bs := (12091 + 1076736) + 34) ?_
  refine R_X12_init (X := fun _ => (0, fun _ => 0, none, none)) hh0 fun h1 f1 s1 => ?_
  refine BL_law_7 (bc := 15 + 2048) (bs := 12091 + 1076736) ?_
  refine BL_law_11 (bc1 := 15) (bs1 := 12091) (bc := 2048) (bs := 1076736) ?_
  refine R_X13_init (up_at _ _ _) fun h2 f2 mo2 => ?_
  refine BL_law_15 ?_
  have z0 : h2 0 = cI (Ls L f) := by rw [f2 0 (by decide), up_ne (by decide), f1 0 (by decide), up_ne (by decide)]; exact hs
  have fr : Fr h1 h2 301 16 := fun x hx => by rw [f2 x hx, up_ne (by omega)]
  have s2 := s1.mv fr
  exact law_loop hL k 512 0 h2 317 w0 w0 _ f0 0 (by decide) (by decide) (by decide) (by omega) (by decide) s2 (mo2 _ BZ) Inv.start ⟨by decide, by decide⟩ z0
end LAWLOOP
