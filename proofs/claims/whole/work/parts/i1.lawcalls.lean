/-! The law: each call, by the class and by the reference. -/
section MOVE
variable {g h h1 h2 : aH} {W V W2 V2 : Int → Int → Int} {X X2 : Int → Tx} {F F2 B : Int → Int} {cm c2 wr : Int}
theorem IsPo.mv (s : IsPo g h W V X F) (f : Fr h h1 301 16) : IsPo h1 h1 W V X F := by
  obtain ⟨s0, s1, s2, s3, s4, s5, ⟨l, s6⟩, s7, s8, G, s9⟩ := s
  exact ⟨⟨fun _ _ => rfl, fun _ _ _ => rfl⟩, by rw [f _ (by decide)]; exact s1, s2.fr f (by decide) (by decide), s3.fr f (by decide) (by decide), s4.fr f (by decide), s5.fr f (by decide), ⟨l, s6.fr f (by decide)⟩, s7.fr f (by decide), s8.fr f (by decide), G, s9.fr f (by decide)⟩
theorem IsMo.mv (m : IsMo g h W V X F B wr cm) (f : ∀ x, 301 ≤ x → x ≤ 316 → h1 x = h x) : IsMo h1 h1 W V X F B wr cm := by
  obtain ⟨M, ⟨_, e0, e1, e2, e3, e4, e5, e6, e7, e8, e9, e10, e11, e12, e13, e14, e15⟩, r⟩ := m
  exact ⟨M, ⟨Fr.rf _ _ _, by rw [f _ (by decide) (by decide)]; exact e0, by rw [f _ (by decide) (by decide)]; exact e1, by rw [f _ (by decide) (by decide)]; exact e2, by rw [f _ (by decide) (by decide)]; exact e3, by rw [f _ (by decide) (by decide)]; exact e4, by rw [f _ (by decide) (by decide)]; exact e5, by rw [f _ (by decide) (by decide)]; exact e6, by rw [f _ (by decide) (by decide)]; exact e7, by rw [f _ (by decide) (by decide)]; exact e8, by rw [f _ (by decide) (by decide)]; exact e9, by rw [f _ (by decide) (by decide)]; exact e10, by rw [f _ (by decide) (by decide)]; exact e11, by rw [f _ (by decide) (by decide)]; exact e12, by rw [f _ (by decide) (by decide)]; exact e13, by rw [f _ (by decide) (by decide)]; exact e14, by rw [f _ (by decide) (by decide)]; exact e15⟩, r⟩
theorem IsMo.frm (m : IsMo g h W V X F B wr cm) : Fr g h 301 16 := by
  obtain ⟨M, e, _⟩ := m
  exact e.1
theorem po_mo (s : IsPo h h1 W2 V2 X2 F2) (m : IsMo h h W V X F B wr cm) : IsMo h1 h1 W V X F B wr cm := m.mv fun x a b => s.1.1 x (.inr ⟨a, b⟩)
theorem clo (s : IsPo h h1 W2 V2 X2 F2) (m : IsMo h1 h2 W2 V2 X2 F2 B wr c2) : IsPo h2 h2 W2 V2 X2 F2 ∧ IsMo h2 h2 W2 V2 X2 F2 B wr c2 ∧ h2 0 = h 0 := ⟨s.mv m.frm, m.mv fun _ _ _ => rfl, by rw [m.frm 0 (by decide)]; exact s.1.1 0 (.inl rfl)⟩
end MOVE
def BZ : Int → Int := fun _ => 0
/-- how the law goes on behind a call -/
def NX (d m : Nat) (f : Int → Int) (L : Nat) (i : Int) (Q : aQ) : Prop := ∀ (h : aH) (n : Nat) (W V : Int → Int → Int) (X : Int → Tx) (F : Int → Int) (cm : Int), 317 ≤ n → IsPo h h W V X F → IsMo h h W V X F BZ 1 cm → Inv W V X F → (0 ≤ cm ∧ cm + 720 * m ≤ 400000) → h 0 = cI (Ls L f) → Rn (d + 200) (4 * m) (2103 * m) mL_law 1576 [some (vR (some 0)), some (vR (some 1)), some (vR (some 301)), some (vI i)] [] h n Q
section LAWCALLS
variable {d n m L : Nat} {h : aH} {Q : aQ} {W V : Int → Int → Int} {X : Int → Tx} {F f : Int → Int} {cm i : Int}
theorem lw9_person (nx : NX d m f L i Q) (hL : L ≤ 3072) (m5 : m ≤ 511) (i0 : 0 ≤ i) (i1 : i + 6 ≤ L) (hn : 317 ≤ n) (s : IsPo h h W V X F) (mo : IsMo h h W V X F BZ 1 cm) (v : Inv W V X F) (c0 : 0 ≤ cm) (c1 : cm + 720 * (m + 1) ≤ 400000) (hs : h 0 = cI (Ls L f)) : Rn (d + 200) (4 * m) (2103 * m) mL_law 236 [some (vR (some 0)), some (vR (some 1)), some (vR (some 301)), some (vI i)] [] h n Q := by
  obtain ⟨ok, ov, of, ox, ovx, vx, oc, oc2⟩ := id v
  refine BL_law_236 (by omega) hs (by omega) (Ls_get (by omega) (by omega)) (by omega) (by omega) (Ls_get (by omega) (by omega)) s.2.1 ?_
  refine P_person s ok fun h1 s1 => ?_
  have hs1 : h1 0 = cI (Ls L f) := (s1.1.1 0 (.inl rfl)).trans hs
  have m1 := po_mo s1 mo
  obtain ⟨M1, e1, _⟩ := id m1
  refine BL_law_250 (by omega) hs1 (by omega) (Ls_get (by omega) (by omega)) (by omega) (by omega) (Ls_get (by omega) (by omega)) e1.o ?_
  refine M_person m1  fun h2 m2 => ?_
  refine BL_law_264 (fun _ => ?_) fun w => absurd rfl w
  have c := clo s1 m2
  exact nx h2 n _ _ _ _ cm hn c.1 c.2.1 (v.sm (okW_person ok) Sm.person) ⟨c0, by omega⟩ (c.2.2.trans hs)
theorem lw9_current (nx : NX d m f L i Q) (hL : L ≤ 3072) (m5 : m ≤ 511) (i0 : 0 ≤ i) (i1 : i + 6 ≤ L) (hn : 317 ≤ n) (s : IsPo h h W V X F) (mo : IsMo h h W V X F BZ 1 cm) (v : Inv W V X F) (c0 : 0 ≤ cm) (c1 : cm + 720 * (m + 1) ≤ 400000) (hs : h 0 = cI (Ls L f)) : Rn (d + 200) (4 * m) (2103 * m) mL_law 269 [some (vR (some 0)), some (vR (some 1)), some (vR (some 301)), some (vI i)] [] h n Q := by
  obtain ⟨ok, ov, of, ox, ovx, vx, oc, oc2⟩ := id v
  refine BL_law_269 (by omega) hs (by omega) (Ls_get (by omega) (by omega)) (by omega) (by omega) (Ls_get (by omega) (by omega)) (by omega) (by omega) (Ls_get (by omega) (by omega)) s.2.1 ?_
  refine P_current s  fun h1 s1 => ?_
  have hs1 : h1 0 = cI (Ls L f) := (s1.1.1 0 (.inl rfl)).trans hs
  have m1 := po_mo s1 mo
  obtain ⟨M1, e1, _⟩ := id m1
  refine BL_law_288 (by omega) hs1 (by omega) (Ls_get (by omega) (by omega)) (by omega) (by omega) (Ls_get (by omega) (by omega)) (by omega) (by omega) (Ls_get (by omega) (by omega)) e1.o ?_
  refine M_current m1  fun h2 m2 => ?_
  refine BL_law_307 (fun _ => ?_) fun w => absurd rfl w
  have c := clo s1 m2
  exact nx h2 n _ _ _ _ cm hn c.1 c.2.1 (v.sm (okW_current ok) Sm.current) ⟨c0, by omega⟩ (c.2.2.trans hs)
theorem lw9_feed (nx : NX d m f L i Q) (hL : L ≤ 3072) (m5 : m ≤ 511) (i0 : 0 ≤ i) (i1 : i + 6 ≤ L) (hn : 317 ≤ n) (s : IsPo h h W V X F) (mo : IsMo h h W V X F BZ 1 cm) (v : Inv W V X F) (c0 : 0 ≤ cm) (c1 : cm + 720 * (m + 1) ≤ 400000) (hs : h 0 = cI (Ls L f)) : Rn (d + 200) (4 * m) (2103 * m) mL_law 312 [some (vR (some 0)), some (vR (some 1)), some (vR (some 301)), some (vI i)] [] h n Q := by
  obtain ⟨ok, ov, of, ox, ovx, vx, oc, oc2⟩ := id v
  refine BL_law_312 (by omega) hs (by omega) (Ls_get (by omega) (by omega)) (by omega) (by omega) (Ls_get (by omega) (by omega)) (by omega) (by omega) (Ls_get (by omega) (by omega)) (by omega) (by omega) (Ls_get (by omega) (by omega)) (by omega) (by omega) (Ls_get (by omega) (by omega)) s.2.1 ?_
  refine P_feed s of fun h1 s1 => ?_
  have hs1 : h1 0 = cI (Ls L f) := (s1.1.1 0 (.inl rfl)).trans hs
  have m1 := po_mo s1 mo
  obtain ⟨M1, e1, _⟩ := id m1
  refine BL_law_341 (by omega) hs1 (by omega) (Ls_get (by omega) (by omega)) (by omega) (by omega) (Ls_get (by omega) (by omega)) (by omega) (by omega) (Ls_get (by omega) (by omega)) (by omega) (by omega) (Ls_get (by omega) (by omega)) (by omega) (by omega) (Ls_get (by omega) (by omega)) e1.o ?_
  refine M_feed m1 of fun h2 m2 => ?_
  refine BL_law_370 (fun _ => ?_) fun w => absurd rfl w
  have c := clo s1 m2
  exact nx h2 n _ _ _ _ cm hn c.1 c.2.1 (v.tape (okF_feed of)) ⟨c0, by omega⟩ (c.2.2.trans hs)
theorem lw9_end (nx : NX d m f L i Q) (hL : L ≤ 3072) (m5 : m ≤ 511) (i0 : 0 ≤ i) (i1 : i + 6 ≤ L) (hn : 317 ≤ n) (s : IsPo h h W V X F) (mo : IsMo h h W V X F BZ 1 cm) (v : Inv W V X F) (c0 : 0 ≤ cm) (c1 : cm + 720 * (m + 1) ≤ 400000) (hs : h 0 = cI (Ls L f)) : Rn (d + 200) (4 * m) (2103 * m) mL_law 375 [some (vR (some 0)), some (vR (some 1)), some (vR (some 301)), some (vI i)] [] h n Q := by
  obtain ⟨ok, ov, of, ox, ovx, vx, oc, oc2⟩ := id v
  refine BL_law_375 (by omega) hs (by omega) (Ls_get (by omega) (by omega)) s.2.1 ?_
  refine P_end s  fun h1 s1 => ?_
  have hs1 : h1 0 = cI (Ls L f) := (s1.1.1 0 (.inl rfl)).trans hs
  have m1 := po_mo s1 mo
  obtain ⟨M1, e1, _⟩ := id m1
  refine BL_law_384 (by omega) hs1 (by omega) (Ls_get (by omega) (by omega)) e1.o ?_
  refine M_end m1  fun h2 m2 => ?_
  refine BL_law_393 (fun _ => ?_) fun w => absurd rfl w
  have c := clo s1 m2
  exact nx h2 n _ _ _ _ cm hn c.1 c.2.1 (v.tape (okF_end of)) ⟨c0, by omega⟩ (c.2.2.trans hs)
theorem lw9_text (nx : NX d m f L i Q) (hL : L ≤ 3072) (m5 : m ≤ 511) (i0 : 0 ≤ i) (i1 : i + 6 ≤ L) (hn : 317 ≤ n) (s : IsPo h h W V X F) (mo : IsMo h h W V X F BZ 1 cm) (v : Inv W V X F) (c0 : 0 ≤ cm) (c1 : cm + 720 * (m + 1) ≤ 400000) (hs : h 0 = cI (Ls L f)) : Rn (d + 200) (4 + 4 * m) (2103 + 2103 * m) mL_law 398 [some (vR (some 0)), some (vR (some 1)), some (vR (some 301)), some (vI i)] [] h n Q := by
  obtain ⟨ok, ov, of, ox, ovx, vx, oc, oc2⟩ := id v
  refine BL_law_398 (bc1 := 4) (bs1 := 2103) s.2.1 ?_
  refine P_text s ok of (wfT_all of) hn vx (fun w4 h1 s1 => ?_) (fun w4 sc sg cl hz h1 n1 hn1 s1 => ?_) (fun w4 sc sg cl hz h1 n1 hn1 s1 => ?_)
  · have hs1 : h1 0 = cI (Ls L f) := (s1.1.1 0 (.inl rfl)).trans hs
    have m1 := po_mo s1 mo
    obtain ⟨M1, e1, _⟩ := id m1
    refine BL_law_402 e1.o ?_
    refine M_text (sc := 0) (sg := fun _ => 0) (cl := fun _ => 0) m1 of (fun _ h2 m2 => ?_) (fun w => by exfalso; omega) (fun w => by exfalso; omega)
    refine BL_law_406 (fun _ => ?_) fun w => absurd rfl w
    have c := clo s1 m2
    exact nx h2 n _ _ _ _ cm hn c.1 c.2.1 (v) ⟨c0, by omega⟩ (c.2.2.trans hs)
  · have hs1 : h1 0 = cI (Ls L f) := (s1.1.1 0 (.inl rfl)).trans hs
    have m1 := po_mo s1 mo
    obtain ⟨M1, e1, _⟩ := id m1
    refine BL_law_402 e1.o ?_
    refine M_text (sc := sc) (sg := sg) (cl := cl) m1 of (fun w => by exfalso; omega) (fun _ _ h2 m2 => ?_) (fun _ w => absurd w hz)
    refine BL_law_406 (fun _ => ?_) fun w => absurd rfl w
    have c := clo s1 m2
    exact nx h2 n1 _ _ _ _ cm (by omega) c.1 c.2.1 (v.bad) ⟨c0, by omega⟩ (c.2.2.trans hs)
  · have hs1 : h1 0 = cI (Ls L f) := (s1.1.1 0 (.inl rfl)).trans hs
    have m1 := po_mo s1 mo
    obtain ⟨M1, e1, _⟩ := id m1
    refine BL_law_402 e1.o ?_
    refine M_text (sc := sc) (sg := sg) (cl := cl) m1 of (fun w => by exfalso; omega) (fun _ w => absurd hz w) (fun _ _ h2 m2 => ?_)
    refine BL_law_406 (fun _ => ?_) fun w => absurd rfl w
    have c := clo s1 m2
    exact nx h2 n1 _ _ _ _ cm (by omega) c.1 c.2.1 (v.text w4 (okTx_all of hz)) ⟨c0, by omega⟩ (c.2.2.trans hs)
theorem lw9_fault (nx : NX d m f L i Q) (hL : L ≤ 3072) (m5 : m ≤ 511) (i0 : 0 ≤ i) (i1 : i + 6 ≤ L) (hn : 317 ≤ n) (s : IsPo h h W V X F) (mo : IsMo h h W V X F BZ 1 cm) (v : Inv W V X F) (c0 : 0 ≤ cm) (c1 : cm + 720 * (m + 1) ≤ 400000) (hs : h 0 = cI (Ls L f)) : Rn (d + 200) (4 * m) (2103 * m) mL_law 411 [some (vR (some 0)), some (vR (some 1)), some (vR (some 301)), some (vI i)] [] h n Q := by
  obtain ⟨ok, ov, of, ox, ovx, vx, oc, oc2⟩ := id v
  refine BL_law_411 (by omega) hs (by omega) (Ls_get (by omega) (by omega)) s.2.1 ?_
  refine P_fault s  fun h1 s1 => ?_
  have hs1 : h1 0 = cI (Ls L f) := (s1.1.1 0 (.inl rfl)).trans hs
  have m1 := po_mo s1 mo
  obtain ⟨M1, e1, _⟩ := id m1
  refine BL_law_420 (by omega) hs1 (by omega) (Ls_get (by omega) (by omega)) e1.o ?_
  refine M_fault m1  fun h2 m2 => ?_
  refine BL_law_429 (fun _ => ?_) fun w => absurd rfl w
  have c := clo s1 m2
  exact nx h2 n _ _ _ _ cm hn c.1 c.2.1 (v) ⟨c0, by omega⟩ (c.2.2.trans hs)
theorem lw9_by (nx : NX d m f L i Q) (hL : L ≤ 3072) (m5 : m ≤ 511) (i0 : 0 ≤ i) (i1 : i + 6 ≤ L) (hn : 317 ≤ n) (s : IsPo h h W V X F) (mo : IsMo h h W V X F BZ 1 cm) (v : Inv W V X F) (c0 : 0 ≤ cm) (c1 : cm + 720 * (m + 1) ≤ 400000) (hs : h 0 = cI (Ls L f)) : Rn (d + 200) (4 * m) (2103 * m) mL_law 434 [some (vR (some 0)), some (vR (some 1)), some (vR (some 301)), some (vI i)] [] h n Q := by
  obtain ⟨ok, ov, of, ox, ovx, vx, oc, oc2⟩ := id v
  refine BL_law_434 (by omega) hs (by omega) (Ls_get (by omega) (by omega)) s.2.1 ?_
  refine P_by s ok fun h1 s1 => ?_
  have hs1 : h1 0 = cI (Ls L f) := (s1.1.1 0 (.inl rfl)).trans hs
  have m1 := po_mo s1 mo
  obtain ⟨M1, e1, _⟩ := id m1
  refine BL_law_443 (by omega) hs1 (by omega) (Ls_get (by omega) (by omega)) e1.o ?_
  refine M_by m1  fun h2 m2 => ?_
  refine BL_law_452 (fun _ => ?_) fun w => absurd rfl w
  have c := clo s1 m2
  exact nx h2 n _ _ _ _ cm hn c.1 c.2.1 (v.sm (okW_by ok) Sm.by) ⟨c0, by omega⟩ (c.2.2.trans hs)
theorem lw9_toss (nx : NX d m f L i Q) (hL : L ≤ 3072) (m5 : m ≤ 511) (i0 : 0 ≤ i) (i1 : i + 6 ≤ L) (hn : 317 ≤ n) (s : IsPo h h W V X F) (mo : IsMo h h W V X F BZ 1 cm) (v : Inv W V X F) (c0 : 0 ≤ cm) (c1 : cm + 720 * (m + 1) ≤ 400000) (hs : h 0 = cI (Ls L f)) : Rn (d + 200) (4 * m) (2103 * m) mL_law 457 [some (vR (some 0)), some (vR (some 1)), some (vR (some 301)), some (vI i)] [] h n Q := by
  obtain ⟨ok, ov, of, ox, ovx, vx, oc, oc2⟩ := id v
  refine BL_law_457 (by omega) hs (by omega) (Ls_get (by omega) (by omega)) (by omega) (by omega) (Ls_get (by omega) (by omega)) (by omega) (by omega) (Ls_get (by omega) (by omega)) s.2.1 ?_
  refine P_toss s ok fun h1 s1 => ?_
  have hs1 : h1 0 = cI (Ls L f) := (s1.1.1 0 (.inl rfl)).trans hs
  have m1 := po_mo s1 mo
  obtain ⟨M1, e1, _⟩ := id m1
  refine BL_law_476 (by omega) hs1 (by omega) (Ls_get (by omega) (by omega)) (by omega) (by omega) (Ls_get (by omega) (by omega)) (by omega) (by omega) (Ls_get (by omega) (by omega)) e1.o ?_
  refine M_toss m1  fun h2 m2 => ?_
  refine BL_law_495 (fun _ => ?_) fun w => absurd rfl w
  have c := clo s1 m2
  exact nx h2 n _ _ _ _ cm hn c.1 c.2.1 (v.sm (okW_toss ok) Sm.toss) ⟨c0, by omega⟩ (c.2.2.trans hs)
theorem lw9_fish (nx : NX d m f L i Q) (hL : L ≤ 3072) (m5 : m ≤ 511) (i0 : 0 ≤ i) (i1 : i + 6 ≤ L) (hn : 317 ≤ n) (s : IsPo h h W V X F) (mo : IsMo h h W V X F BZ 1 cm) (v : Inv W V X F) (c0 : 0 ≤ cm) (c1 : cm + 720 * (m + 1) ≤ 400000) (hs : h 0 = cI (Ls L f)) : Rn (d + 200) (4 * m) (2103 * m) mL_law 500 [some (vR (some 0)), some (vR (some 1)), some (vR (some 301)), some (vI i)] [] h n Q := by
  obtain ⟨ok, ov, of, ox, ovx, vx, oc, oc2⟩ := id v
  refine BL_law_500 (by omega) hs (by omega) (Ls_get (by omega) (by omega)) (by omega) (by omega) (Ls_get (by omega) (by omega)) s.2.1 ?_
  refine P_fish s ok fun h1 s1 => ?_
  have hs1 : h1 0 = cI (Ls L f) := (s1.1.1 0 (.inl rfl)).trans hs
  have m1 := po_mo s1 mo
  obtain ⟨M1, e1, _⟩ := id m1
  refine BL_law_514 (by omega) hs1 (by omega) (Ls_get (by omega) (by omega)) (by omega) (by omega) (Ls_get (by omega) (by omega)) e1.o ?_
  refine M_fish m1 ok fun h2 m2 => ?_
  refine BL_law_528 (fun _ => ?_) fun w => absurd rfl w
  have c := clo s1 m2
  exact nx h2 n _ _ _ _ cm hn c.1 c.2.1 (v.sm (okW_fish ok) Sm.fish) ⟨c0, by omega⟩ (c.2.2.trans hs)
theorem lw9_again (nx : NX d m f L i Q) (hL : L ≤ 3072) (m5 : m ≤ 511) (i0 : 0 ≤ i) (i1 : i + 6 ≤ L) (hn : 317 ≤ n) (s : IsPo h h W V X F) (mo : IsMo h h W V X F BZ 1 cm) (v : Inv W V X F) (c0 : 0 ≤ cm) (c1 : cm + 720 * (m + 1) ≤ 400000) (hs : h 0 = cI (Ls L f)) : Rn (d + 200) (4 * m) (2103 * m) mL_law 533 [some (vR (some 0)), some (vR (some 1)), some (vR (some 301)), some (vI i)] [] h n Q := by
  obtain ⟨ok, ov, of, ox, ovx, vx, oc, oc2⟩ := id v
  refine BL_law_533 (by omega) hs (by omega) (Ls_get (by omega) (by omega)) s.2.1 ?_
  refine P_again s ok fun h1 s1 => ?_
  have hs1 : h1 0 = cI (Ls L f) := (s1.1.1 0 (.inl rfl)).trans hs
  have m1 := po_mo s1 mo
  obtain ⟨M1, e1, _⟩ := id m1
  refine BL_law_542 (by omega) hs1 (by omega) (Ls_get (by omega) (by omega)) e1.o ?_
  refine M_again m1 ok fun h2 m2 => ?_
  refine BL_law_551 (fun _ => ?_) fun w => absurd rfl w
  have c := clo s1 m2
  exact nx h2 n _ _ _ _ cm hn c.1 c.2.1 (v.sm (okW_again ok) Sm.again) ⟨c0, by omega⟩ (c.2.2.trans hs)
theorem lw9_tide (nx : NX d m f L i Q) (hL : L ≤ 3072) (m5 : m ≤ 511) (i0 : 0 ≤ i) (i1 : i + 6 ≤ L) (hn : 317 ≤ n) (s : IsPo h h W V X F) (mo : IsMo h h W V X F BZ 1 cm) (v : Inv W V X F) (c0 : 0 ≤ cm) (c1 : cm + 720 * (m + 1) ≤ 400000) (hs : h 0 = cI (Ls L f)) : Rn (d + 200) (4 * m) (2103 * m) mL_law 556 [some (vR (some 0)), some (vR (some 1)), some (vR (some 301)), some (vI i)] [] h n Q := by
  obtain ⟨ok, ov, of, ox, ovx, vx, oc, oc2⟩ := id v
  refine BL_law_556 (by omega) hs (by omega) (Ls_get (by omega) (by omega)) s.2.1 ?_
  refine P_tide s ok fun h1 s1 => ?_
  have hs1 : h1 0 = cI (Ls L f) := (s1.1.1 0 (.inl rfl)).trans hs
  have m1 := po_mo s1 mo
  obtain ⟨M1, e1, _⟩ := id m1
  refine BL_law_565 (by omega) hs1 (by omega) (Ls_get (by omega) (by omega)) e1.o ?_
  refine M_tide m1 ok fun h2 c2 hc m2 => ?_
  refine BL_law_574 (fun _ => ?_) fun w => absurd rfl w
  have c := clo s1 m2
  exact nx h2 n _ _ _ _ c2 hn c.1 c.2.1 (v.sm (okW_tide ok) Sm.tide) ⟨by omega, by omega⟩ (c.2.2.trans hs)
theorem lw9_played (nx : NX d m f L i Q) (hL : L ≤ 3072) (m5 : m ≤ 511) (i0 : 0 ≤ i) (i1 : i + 6 ≤ L) (hn : 317 ≤ n) (s : IsPo h h W V X F) (mo : IsMo h h W V X F BZ 1 cm) (v : Inv W V X F) (c0 : 0 ≤ cm) (c1 : cm + 720 * (m + 1) ≤ 400000) (hs : h 0 = cI (Ls L f)) : Rn (d + 200) (4 * m) (2103 * m) mL_law 579 [some (vR (some 0)), some (vR (some 1)), some (vR (some 301)), some (vI i)] [] h n Q := by
  obtain ⟨ok, ov, of, ox, ovx, vx, oc, oc2⟩ := id v
  refine BL_law_579 (by omega) hs (by omega) (Ls_get (by omega) (by omega)) s.2.1 ?_
  refine P_played s ok ox fun h1 s1 => ?_
  have hs1 : h1 0 = cI (Ls L f) := (s1.1.1 0 (.inl rfl)).trans hs
  have m1 := po_mo s1 mo
  obtain ⟨M1, e1, _⟩ := id m1
  refine BL_law_588 (by omega) hs1 (by omega) (Ls_get (by omega) (by omega)) e1.o ?_
  refine M_played m1 ok ox fun h2 c2 hc m2 => ?_
  refine BL_law_597 (fun _ => ?_) fun w => absurd rfl w
  have c := clo s1 m2
  exact nx h2 n _ _ _ _ c2 hn c.1 c.2.1 (v.sm (okW_played ok) Sm.played) ⟨by omega, by omega⟩ (c.2.2.trans hs)
theorem lw9_years (nx : NX d m f L i Q) (hL : L ≤ 3072) (m5 : m ≤ 511) (i0 : 0 ≤ i) (i1 : i + 6 ≤ L) (hn : 317 ≤ n) (s : IsPo h h W V X F) (mo : IsMo h h W V X F BZ 1 cm) (v : Inv W V X F) (c0 : 0 ≤ cm) (c1 : cm + 720 * (m + 1) ≤ 400000) (hs : h 0 = cI (Ls L f)) : Rn (d + 200) (4 * m) (2103 * m) mL_law 602 [some (vR (some 0)), some (vR (some 1)), some (vR (some 301)), some (vI i)] [] h n Q := by
  obtain ⟨ok, ov, of, ox, ovx, vx, oc, oc2⟩ := id v
  refine BL_law_602 (by omega) hs (by omega) (Ls_get (by omega) (by omega)) (by omega) (by omega) (Ls_get (by omega) (by omega)) s.2.1 ?_
  refine P_years s ok fun h1 s1 => ?_
  have hs1 : h1 0 = cI (Ls L f) := (s1.1.1 0 (.inl rfl)).trans hs
  have m1 := po_mo s1 mo
  obtain ⟨M1, e1, _⟩ := id m1
  refine BL_law_616 (by omega) hs1 (by omega) (Ls_get (by omega) (by omega)) (by omega) (by omega) (Ls_get (by omega) (by omega)) e1.o ?_
  refine M_years m1 ok c0 (by omega) fun h2 c2 hc hd m2 => ?_
  refine BL_law_630 (fun _ => ?_) fun w => absurd rfl w
  have c := clo s1 m2
  exact nx h2 n _ _ _ _ c2 hn c.1 c.2.1 (v.sm (okW_yrs ok) Sm.years) ⟨by omega, by omega⟩ (c.2.2.trans hs)
theorem lw9_undo (nx : NX d m f L i Q) (hL : L ≤ 3072) (m5 : m ≤ 511) (i0 : 0 ≤ i) (i1 : i + 6 ≤ L) (hn : 317 ≤ n) (s : IsPo h h W V X F) (mo : IsMo h h W V X F BZ 1 cm) (v : Inv W V X F) (c0 : 0 ≤ cm) (c1 : cm + 720 * (m + 1) ≤ 400000) (hs : h 0 = cI (Ls L f)) : Rn (d + 200) (4 * m) (2103 * m) mL_law 635 [some (vR (some 0)), some (vR (some 1)), some (vR (some 301)), some (vI i)] [] h n Q := by
  obtain ⟨ok, ov, of, ox, ovx, vx, oc, oc2⟩ := id v
  refine BL_law_635 s.2.1 ?_
  refine P_undo s ok fun h1 s1 => ?_
  have hs1 : h1 0 = cI (Ls L f) := (s1.1.1 0 (.inl rfl)).trans hs
  have m1 := po_mo s1 mo
  obtain ⟨M1, e1, _⟩ := id m1
  refine BL_law_639 e1.o ?_
  refine M_undo m1 ok fun h2 m2 => ?_
  refine BL_law_643 (fun _ => ?_) fun w => absurd rfl w
  have c := clo s1 m2
  exact nx h2 n _ _ _ _ cm hn c.1 c.2.1 (v.sm (okW_undo ok) Sm.undo) ⟨c0, by omega⟩ (c.2.2.trans hs)
theorem lw9_of (nx : NX d m f L i Q) (hL : L ≤ 3072) (m5 : m ≤ 511) (i0 : 0 ≤ i) (i1 : i + 6 ≤ L) (hn : 317 ≤ n) (s : IsPo h h W V X F) (mo : IsMo h h W V X F BZ 1 cm) (v : Inv W V X F) (c0 : 0 ≤ cm) (c1 : cm + 720 * (m + 1) ≤ 400000) (hs : h 0 = cI (Ls L f)) : Rn (d + 200) (4 * m) (2103 * m) mL_law 648 [some (vR (some 0)), some (vR (some 1)), some (vR (some 301)), some (vI i)] [] h n Q := by
  obtain ⟨ok, ov, of, ox, ovx, vx, oc, oc2⟩ := id v
  refine BL_law_648 (by omega) hs (by omega) (Ls_get (by omega) (by omega)) (by omega) (by omega) (Ls_get (by omega) (by omega)) s.2.1 ?_
  refine P_of s ok fun h1 s1 => ?_
  have hs1 : h1 0 = cI (Ls L f) := (s1.1.1 0 (.inl rfl)).trans hs
  have m1 := po_mo s1 mo
  obtain ⟨M1, e1, _⟩ := id m1
  refine BL_law_662 (by omega) hs1 (by omega) (Ls_get (by omega) (by omega)) (by omega) (by omega) (Ls_get (by omega) (by omega)) e1.o ?_
  refine M_of m1  fun h2 m2 => ?_
  refine BL_law_676 (fun _ => ?_) fun w => absurd rfl w
  have c := clo s1 m2
  exact nx h2 n _ _ _ _ cm hn c.1 c.2.1 (v) ⟨c0, by omega⟩ (c.2.2.trans hs)
theorem lw9_ofBottle (nx : NX d m f L i Q) (hL : L ≤ 3072) (m5 : m ≤ 511) (i0 : 0 ≤ i) (i1 : i + 6 ≤ L) (hn : 317 ≤ n) (s : IsPo h h W V X F) (mo : IsMo h h W V X F BZ 1 cm) (v : Inv W V X F) (c0 : 0 ≤ cm) (c1 : cm + 720 * (m + 1) ≤ 400000) (hs : h 0 = cI (Ls L f)) : Rn (d + 200) (4 * m) (2103 * m) mL_law 681 [some (vR (some 0)), some (vR (some 1)), some (vR (some 301)), some (vI i)] [] h n Q := by
  obtain ⟨ok, ov, of, ox, ovx, vx, oc, oc2⟩ := id v
  refine BL_law_681 (by omega) hs (by omega) (Ls_get (by omega) (by omega)) (by omega) (by omega) (Ls_get (by omega) (by omega)) s.2.1 ?_
  refine P_ofBottle s ok fun h1 s1 => ?_
  have hs1 : h1 0 = cI (Ls L f) := (s1.1.1 0 (.inl rfl)).trans hs
  have m1 := po_mo s1 mo
  obtain ⟨M1, e1, _⟩ := id m1
  refine BL_law_695 (by omega) hs1 (by omega) (Ls_get (by omega) (by omega)) (by omega) (by omega) (Ls_get (by omega) (by omega)) e1.o ?_
  refine M_ofBottle m1 ok fun h2 m2 => ?_
  refine BL_law_709 (fun _ => ?_) fun w => absurd rfl w
  have c := clo s1 m2
  exact nx h2 n _ _ _ _ cm hn c.1 c.2.1 (v) ⟨c0, by omega⟩ (c.2.2.trans hs)
theorem lw9_told (nx : NX d m f L i Q) (hL : L ≤ 3072) (m5 : m ≤ 511) (i0 : 0 ≤ i) (i1 : i + 6 ≤ L) (hn : 317 ≤ n) (s : IsPo h h W V X F) (mo : IsMo h h W V X F BZ 1 cm) (v : Inv W V X F) (c0 : 0 ≤ cm) (c1 : cm + 720 * (m + 1) ≤ 400000) (hs : h 0 = cI (Ls L f)) : Rn (d + 200) (4 * m) (2103 * m) mL_law 714 [some (vR (some 0)), some (vR (some 1)), some (vR (some 301)), some (vI i)] [] h n Q := by
  obtain ⟨ok, ov, of, ox, ovx, vx, oc, oc2⟩ := id v
  refine BL_law_714 (by omega) hs (by omega) (Ls_get (by omega) (by omega)) (by omega) (by omega) (Ls_get (by omega) (by omega)) s.2.1 ?_
  refine P_told s  fun h1 s1 => ?_
  have hs1 : h1 0 = cI (Ls L f) := (s1.1.1 0 (.inl rfl)).trans hs
  have m1 := po_mo s1 mo
  obtain ⟨M1, e1, _⟩ := id m1
  refine BL_law_728 (by omega) hs1 (by omega) (Ls_get (by omega) (by omega)) (by omega) (by omega) (Ls_get (by omega) (by omega)) e1.o ?_
  refine M_told m1  fun h2 m2 => ?_
  refine BL_law_742 (fun _ => ?_) fun w => absurd rfl w
  have c := clo s1 m2
  exact nx h2 n _ _ _ _ cm hn c.1 c.2.1 (v) ⟨c0, by omega⟩ (c.2.2.trans hs)
theorem lw9_is (nx : NX d m f L i Q) (hL : L ≤ 3072) (m5 : m ≤ 511) (i0 : 0 ≤ i) (i1 : i + 6 ≤ L) (hn : 317 ≤ n) (s : IsPo h h W V X F) (mo : IsMo h h W V X F BZ 1 cm) (v : Inv W V X F) (c0 : 0 ≤ cm) (c1 : cm + 720 * (m + 1) ≤ 400000) (hs : h 0 = cI (Ls L f)) : Rn (d + 200) (4 * m) (2103 * m) mL_law 747 [some (vR (some 0)), some (vR (some 1)), some (vR (some 301)), some (vI i)] [] h n Q := by
  obtain ⟨ok, ov, of, ox, ovx, vx, oc, oc2⟩ := id v
  refine BL_law_747 (by omega) hs (by omega) (Ls_get (by omega) (by omega)) s.2.1 ?_
  refine P_is s ok fun h1 s1 => ?_
  have hs1 : h1 0 = cI (Ls L f) := (s1.1.1 0 (.inl rfl)).trans hs
  have m1 := po_mo s1 mo
  obtain ⟨M1, e1, _⟩ := id m1
  refine BL_law_756 (by omega) hs1 (by omega) (Ls_get (by omega) (by omega)) e1.o ?_
  refine M_is m1  fun h2 m2 => ?_
  refine BL_law_765 (fun _ => ?_) fun w => absurd rfl w
  have c := clo s1 m2
  exact nx h2 n _ _ _ _ cm hn c.1 c.2.1 (v) ⟨c0, by omega⟩ (c.2.2.trans hs)
theorem lw9_book (nx : NX d m f L i Q) (hL : L ≤ 3072) (m5 : m ≤ 511) (i0 : 0 ≤ i) (i1 : i + 6 ≤ L) (hn : 317 ≤ n) (s : IsPo h h W V X F) (mo : IsMo h h W V X F BZ 1 cm) (v : Inv W V X F) (c0 : 0 ≤ cm) (c1 : cm + 720 * (m + 1) ≤ 400000) (hs : h 0 = cI (Ls L f)) : Rn (d + 200) (4 * m) (2103 * m) mL_law 770 [some (vR (some 0)), some (vR (some 1)), some (vR (some 301)), some (vI i)] [] h n Q := by
  obtain ⟨ok, ov, of, ox, ovx, vx, oc, oc2⟩ := id v
  refine BL_law_770 (by omega) hs (by omega) (Ls_get (by omega) (by omega)) (by omega) (by omega) (Ls_get (by omega) (by omega)) s.2.1 ?_
  refine P_book s ok fun h1 s1 => ?_
  have hs1 : h1 0 = cI (Ls L f) := (s1.1.1 0 (.inl rfl)).trans hs
  have m1 := po_mo s1 mo
  obtain ⟨M1, e1, _⟩ := id m1
  refine BL_law_784 (by omega) hs1 (by omega) (Ls_get (by omega) (by omega)) (by omega) (by omega) (Ls_get (by omega) (by omega)) e1.o ?_
  refine M_book m1  fun h2 m2 => ?_
  refine BL_law_798 (fun _ => ?_) fun w => absurd rfl w
  have c := clo s1 m2
  exact nx h2 n _ _ _ _ cm hn c.1 c.2.1 (v) ⟨c0, by omega⟩ (c.2.2.trans hs)
theorem lw9_foretold (nx : NX d m f L i Q) (hL : L ≤ 3072) (m5 : m ≤ 511) (i0 : 0 ≤ i) (i1 : i + 6 ≤ L) (hn : 317 ≤ n) (s : IsPo h h W V X F) (mo : IsMo h h W V X F BZ 1 cm) (v : Inv W V X F) (c0 : 0 ≤ cm) (c1 : cm + 720 * (m + 1) ≤ 400000) (hs : h 0 = cI (Ls L f)) : Rn (d + 200) (4 * m) (2103 * m) mL_law 803 [some (vR (some 0)), some (vR (some 1)), some (vR (some 301)), some (vI i)] [] h n Q := by
  obtain ⟨ok, ov, of, ox, ovx, vx, oc, oc2⟩ := id v
  refine BL_law_803 (by omega) hs (by omega) (Ls_get (by omega) (by omega)) (by omega) (by omega) (Ls_get (by omega) (by omega)) (by omega) (by omega) (Ls_get (by omega) (by omega)) s.2.1 ?_
  refine P_foretold s ok fun h1 s1 => ?_
  have hs1 : h1 0 = cI (Ls L f) := (s1.1.1 0 (.inl rfl)).trans hs
  have m1 := po_mo s1 mo
  obtain ⟨M1, e1, _⟩ := id m1
  refine BL_law_822 (by omega) hs1 (by omega) (Ls_get (by omega) (by omega)) (by omega) (by omega) (Ls_get (by omega) (by omega)) (by omega) (by omega) (Ls_get (by omega) (by omega)) e1.o ?_
  refine M_foretold m1 ok c0 (by omega) fun h2 c2 hc hd m2 => ?_
  refine BL_law_841 (fun _ => ?_) fun w => absurd rfl w
  have c := clo s1 m2
  exact nx h2 n _ _ _ _ c2 hn c.1 c.2.1 (v) ⟨by omega, by omega⟩ (c.2.2.trans hs)
theorem lw9_ends (nx : NX d m f L i Q) (hL : L ≤ 3072) (m5 : m ≤ 511) (i0 : 0 ≤ i) (i1 : i + 6 ≤ L) (hn : 317 ≤ n) (s : IsPo h h W V X F) (mo : IsMo h h W V X F BZ 1 cm) (v : Inv W V X F) (c0 : 0 ≤ cm) (c1 : cm + 720 * (m + 1) ≤ 400000) (hs : h 0 = cI (Ls L f)) : Rn (d + 200) (4 * m) (2103 * m) mL_law 846 [some (vR (some 0)), some (vR (some 1)), some (vR (some 301)), some (vI i)] [] h n Q := by
  obtain ⟨ok, ov, of, ox, ovx, vx, oc, oc2⟩ := id v
  refine BL_law_846 (by omega) hs (by omega) (Ls_get (by omega) (by omega)) s.2.1 ?_
  refine P_ends s ok fun h1 s1 => ?_
  have hs1 : h1 0 = cI (Ls L f) := (s1.1.1 0 (.inl rfl)).trans hs
  have m1 := po_mo s1 mo
  obtain ⟨M1, e1, _⟩ := id m1
  refine BL_law_855 (by omega) hs1 (by omega) (Ls_get (by omega) (by omega)) e1.o ?_
  refine M_ends m1 ok c0 (by omega) fun h2 c2 hc hd m2 => ?_
  refine BL_law_864 (fun _ => ?_) fun w => absurd rfl w
  have c := clo s1 m2
  exact nx h2 n _ _ _ _ c2 hn c.1 c.2.1 (v) ⟨by omega, by omega⟩ (c.2.2.trans hs)
theorem lw9_drift (nx : NX d m f L i Q) (hL : L ≤ 3072) (m5 : m ≤ 511) (i0 : 0 ≤ i) (i1 : i + 6 ≤ L) (hn : 317 ≤ n) (s : IsPo h h W V X F) (mo : IsMo h h W V X F BZ 1 cm) (v : Inv W V X F) (c0 : 0 ≤ cm) (c1 : cm + 720 * (m + 1) ≤ 400000) (hs : h 0 = cI (Ls L f)) : Rn (d + 200) (4 * m) (2103 * m) mL_law 869 [some (vR (some 0)), some (vR (some 1)), some (vR (some 301)), some (vI i)] [] h n Q := by
  obtain ⟨ok, ov, of, ox, ovx, vx, oc, oc2⟩ := id v
  refine BL_law_869 (by omega) hs (by omega) (Ls_get (by omega) (by omega)) (by omega) (by omega) (Ls_get (by omega) (by omega)) s.2.1 ?_
  refine P_drift s ok fun h1 s1 => ?_
  have hs1 : h1 0 = cI (Ls L f) := (s1.1.1 0 (.inl rfl)).trans hs
  have m1 := po_mo s1 mo
  obtain ⟨M1, e1, _⟩ := id m1
  refine BL_law_883 (by omega) hs1 (by omega) (Ls_get (by omega) (by omega)) (by omega) (by omega) (Ls_get (by omega) (by omega)) e1.o ?_
  refine M_drift m1 ok fun h2 m2 => ?_
  refine BL_law_897 (fun _ => ?_) fun w => absurd rfl w
  have c := clo s1 m2
  exact nx h2 n _ _ _ _ cm hn c.1 c.2.1 (v) ⟨c0, by omega⟩ (c.2.2.trans hs)
theorem lw9_soonest (nx : NX d m f L i Q) (hL : L ≤ 3072) (m5 : m ≤ 511) (i0 : 0 ≤ i) (i1 : i + 6 ≤ L) (hn : 317 ≤ n) (s : IsPo h h W V X F) (mo : IsMo h h W V X F BZ 1 cm) (v : Inv W V X F) (c0 : 0 ≤ cm) (c1 : cm + 720 * (m + 1) ≤ 400000) (hs : h 0 = cI (Ls L f)) : Rn (d + 200) (4 * m) (2103 * m) mL_law 902 [some (vR (some 0)), some (vR (some 1)), some (vR (some 301)), some (vI i)] [] h n Q := by
  obtain ⟨ok, ov, of, ox, ovx, vx, oc, oc2⟩ := id v
  refine BL_law_902 (by omega) hs (by omega) (Ls_get (by omega) (by omega)) (by omega) (by omega) (Ls_get (by omega) (by omega)) (by omega) (by omega) (Ls_get (by omega) (by omega)) s.2.1 ?_
  refine P_soonest s ok fun h1 s1 => ?_
  have hs1 : h1 0 = cI (Ls L f) := (s1.1.1 0 (.inl rfl)).trans hs
  have m1 := po_mo s1 mo
  obtain ⟨M1, e1, _⟩ := id m1
  refine BL_law_921 (by omega) hs1 (by omega) (Ls_get (by omega) (by omega)) (by omega) (by omega) (Ls_get (by omega) (by omega)) (by omega) (by omega) (Ls_get (by omega) (by omega)) e1.o ?_
  refine M_soonest m1 ok fun h2 m2 => ?_
  refine BL_law_940 (fun _ => ?_) fun w => absurd rfl w
  have c := clo s1 m2
  exact nx h2 n _ _ _ _ cm hn c.1 c.2.1 (v) ⟨c0, by omega⟩ (c.2.2.trans hs)
theorem lw9_relay (nx : NX d m f L i Q) (hL : L ≤ 3072) (m5 : m ≤ 511) (i0 : 0 ≤ i) (i1 : i + 6 ≤ L) (hn : 317 ≤ n) (s : IsPo h h W V X F) (mo : IsMo h h W V X F BZ 1 cm) (v : Inv W V X F) (c0 : 0 ≤ cm) (c1 : cm + 720 * (m + 1) ≤ 400000) (hs : h 0 = cI (Ls L f)) : Rn (d + 200) (4 * m) (2103 * m) mL_law 945 [some (vR (some 0)), some (vR (some 1)), some (vR (some 301)), some (vI i)] [] h n Q := by
  obtain ⟨ok, ov, of, ox, ovx, vx, oc, oc2⟩ := id v
  refine BL_law_945 (by omega) hs (by omega) (Ls_get (by omega) (by omega)) (by omega) (by omega) (Ls_get (by omega) (by omega)) (by omega) (by omega) (Ls_get (by omega) (by omega)) s.2.1 ?_
  refine P_relay s ok fun h1 s1 => ?_
  have hs1 : h1 0 = cI (Ls L f) := (s1.1.1 0 (.inl rfl)).trans hs
  have m1 := po_mo s1 mo
  obtain ⟨M1, e1, _⟩ := id m1
  refine BL_law_964 (by omega) hs1 (by omega) (Ls_get (by omega) (by omega)) (by omega) (by omega) (Ls_get (by omega) (by omega)) (by omega) (by omega) (Ls_get (by omega) (by omega)) e1.o ?_
  refine M_relay m1 ok fun h2 m2 => ?_
  refine BL_law_983 (fun _ => ?_) fun w => absurd rfl w
  have c := clo s1 m2
  exact nx h2 n _ _ _ _ cm hn c.1 c.2.1 (v) ⟨c0, by omega⟩ (c.2.2.trans hs)
theorem lw9_found (nx : NX d m f L i Q) (hL : L ≤ 3072) (m5 : m ≤ 511) (i0 : 0 ≤ i) (i1 : i + 6 ≤ L) (hn : 317 ≤ n) (s : IsPo h h W V X F) (mo : IsMo h h W V X F BZ 1 cm) (v : Inv W V X F) (c0 : 0 ≤ cm) (c1 : cm + 720 * (m + 1) ≤ 400000) (hs : h 0 = cI (Ls L f)) : Rn (d + 200) (4 * m) (2103 * m) mL_law 988 [some (vR (some 0)), some (vR (some 1)), some (vR (some 301)), some (vI i)] [] h n Q := by
  obtain ⟨ok, ov, of, ox, ovx, vx, oc, oc2⟩ := id v
  refine BL_law_988 (by omega) hs (by omega) (Ls_get (by omega) (by omega)) (by omega) (by omega) (Ls_get (by omega) (by omega)) s.2.1 ?_
  refine P_found s ok fun h1 s1 => ?_
  have hs1 : h1 0 = cI (Ls L f) := (s1.1.1 0 (.inl rfl)).trans hs
  have m1 := po_mo s1 mo
  obtain ⟨M1, e1, _⟩ := id m1
  refine BL_law_1002 (by omega) hs1 (by omega) (Ls_get (by omega) (by omega)) (by omega) (by omega) (Ls_get (by omega) (by omega)) e1.o ?_
  refine M_found m1  fun h2 m2 => ?_
  refine BL_law_1016 (fun _ => ?_) fun w => absurd rfl w
  have c := clo s1 m2
  exact nx h2 n _ _ _ _ cm hn c.1 c.2.1 (v.say (say_found ok oc)) ⟨c0, by omega⟩ (c.2.2.trans hs)
theorem lw9_tossed (nx : NX d m f L i Q) (hL : L ≤ 3072) (m5 : m ≤ 511) (i0 : 0 ≤ i) (i1 : i + 6 ≤ L) (hn : 317 ≤ n) (s : IsPo h h W V X F) (mo : IsMo h h W V X F BZ 1 cm) (v : Inv W V X F) (c0 : 0 ≤ cm) (c1 : cm + 720 * (m + 1) ≤ 400000) (hs : h 0 = cI (Ls L f)) : Rn (d + 200) (4 * m) (2103 * m) mL_law 1021 [some (vR (some 0)), some (vR (some 1)), some (vR (some 301)), some (vI i)] [] h n Q := by
  obtain ⟨ok, ov, of, ox, ovx, vx, oc, oc2⟩ := id v
  refine BL_law_1021 (by omega) hs (by omega) (Ls_get (by omega) (by omega)) s.2.1 ?_
  refine P_tossed s ok fun h1 s1 => ?_
  have hs1 : h1 0 = cI (Ls L f) := (s1.1.1 0 (.inl rfl)).trans hs
  have m1 := po_mo s1 mo
  obtain ⟨M1, e1, _⟩ := id m1
  refine BL_law_1030 (by omega) hs1 (by omega) (Ls_get (by omega) (by omega)) e1.o ?_
  refine M_tossed m1 ok fun h2 m2 => ?_
  refine BL_law_1039 (fun _ => ?_) fun w => absurd rfl w
  have c := clo s1 m2
  exact nx h2 n _ _ _ _ cm hn c.1 c.2.1 (v) ⟨c0, by omega⟩ (c.2.2.trans hs)
theorem lw9_likely (nx : NX d m f L i Q) (hL : L ≤ 3072) (m5 : m ≤ 511) (i0 : 0 ≤ i) (i1 : i + 6 ≤ L) (hn : 317 ≤ n) (s : IsPo h h W V X F) (mo : IsMo h h W V X F BZ 1 cm) (v : Inv W V X F) (c0 : 0 ≤ cm) (c1 : cm + 720 * (m + 1) ≤ 400000) (hs : h 0 = cI (Ls L f)) : Rn (d + 200) (4 * m) (2103 * m) mL_law 1044 [some (vR (some 0)), some (vR (some 1)), some (vR (some 301)), some (vI i)] [] h n Q := by
  obtain ⟨ok, ov, of, ox, ovx, vx, oc, oc2⟩ := id v
  have low : ∀ (lo : Int) (h1 : aH), IsPo h h1 W V X F → Rn (d + 200) (4 * m) (2103 * m) mL_law 1076 [some (vR (some 0)), some (vR (some 1)), some (vR (some 301)), some (vI i)] [vL (aLikely W (f (i + 1)) (f (i + 2)) (f (i + 3)) lo)] h1 n Q → True := fun _ _ _ _ => trivial
  clear low
  refine BL_law_1044 (by omega) hs (by omega) (Ls_get (by omega) (by omega)) (by omega) (by omega) (Ls_get (by omega) (by omega)) (by omega) (by omega) (Ls_get (by omega) (by omega)) (by omega) (by omega) (Ls_get (by omega) (by omega)) (fun z => ?_) fun z => ?_
  · refine BL_law_1072 s.2.1 ?_
    refine P_likely s ok fun h1 s1 => ?_
    have hs1 : h1 0 = cI (Ls L f) := (s1.1.1 0 (.inl rfl)).trans hs
    have m1 := po_mo s1 mo
    obtain ⟨M1, e1, _⟩ := id m1
    refine BL_law_1076 (by omega) hs1 (by omega) (Ls_get (by omega) (by omega)) (by omega) (by omega) (Ls_get (by omega) (by omega)) (by omega) (by omega) (Ls_get (by omega) (by omega)) (by omega) (by omega) (Ls_get (by omega) (by omega)) (fun z2 => ?_) fun z2 => absurd z z2
    refine BL_law_1104 e1.o ?_
    refine M_likely m1 ok fun h2 m2 => ?_
    refine BL_law_1108 (fun _ => ?_) fun w => absurd rfl w
    have c := clo s1 m2
    exact nx h2 n _ _ _ _ cm hn c.1 c.2.1 (v) ⟨c0, by omega⟩ (c.2.2.trans hs)
  · refine BL_law_1068 s.2.1 ?_
    refine P_likely s ok fun h1 s1 => ?_
    have hs1 : h1 0 = cI (Ls L f) := (s1.1.1 0 (.inl rfl)).trans hs
    have m1 := po_mo s1 mo
    obtain ⟨M1, e1, _⟩ := id m1
    refine BL_law_1076 (by omega) hs1 (by omega) (Ls_get (by omega) (by omega)) (by omega) (by omega) (Ls_get (by omega) (by omega)) (by omega) (by omega) (Ls_get (by omega) (by omega)) (by omega) (by omega) (Ls_get (by omega) (by omega)) (fun z2 => absurd z2 z) fun z2 => ?_
    refine BL_law_1100 e1.o ?_
    refine M_likely m1 ok fun h2 m2 => ?_
    refine BL_law_1108 (fun _ => ?_) fun w => absurd rfl w
    have c := clo s1 m2
    exact nx h2 n _ _ _ _ cm hn c.1 c.2.1 (v) ⟨c0, by omega⟩ (c.2.2.trans hs)
theorem lw9_odds (nx : NX d m f L i Q) (hL : L ≤ 3072) (m5 : m ≤ 511) (i0 : 0 ≤ i) (i1 : i + 6 ≤ L) (hn : 317 ≤ n) (s : IsPo h h W V X F) (mo : IsMo h h W V X F BZ 1 cm) (v : Inv W V X F) (c0 : 0 ≤ cm) (c1 : cm + 720 * (m + 1) ≤ 400000) (hs : h 0 = cI (Ls L f)) : Rn (d + 200) (4 * m) (2103 * m) mL_law 1114 [some (vR (some 0)), some (vR (some 1)), some (vR (some 301)), some (vI i)] [] h n Q := by
  obtain ⟨ok, ov, of, ox, ovx, vx, oc, oc2⟩ := id v
  refine BL_law_1114 (by omega) hs (by omega) (Ls_get (by omega) (by omega)) (by omega) (by omega) (Ls_get (by omega) (by omega)) s.2.1 ?_
  refine P_odds s  fun h1 s1 => ?_
  have hs1 : h1 0 = cI (Ls L f) := (s1.1.1 0 (.inl rfl)).trans hs
  have m1 := po_mo s1 mo
  obtain ⟨M1, e1, _⟩ := id m1
  refine BL_law_1128 (by omega) hs1 (by omega) (Ls_get (by omega) (by omega)) (by omega) (by omega) (Ls_get (by omega) (by omega)) e1.o ?_
  refine M_odds m1  fun h2 m2 => ?_
  refine BL_law_1142 (fun _ => ?_) fun w => absurd rfl w
  have c := clo s1 m2
  exact nx h2 n _ _ _ _ cm hn c.1 c.2.1 (v.say (say_odds ok oc)) ⟨c0, by omega⟩ (c.2.2.trans hs)
theorem lw9_code (nx : NX d m f L i Q) (hL : L ≤ 3072) (m5 : m ≤ 511) (i0 : 0 ≤ i) (i1 : i + 6 ≤ L) (hn : 317 ≤ n) (s : IsPo h h W V X F) (mo : IsMo h h W V X F BZ 1 cm) (v : Inv W V X F) (c0 : 0 ≤ cm) (c1 : cm + 720 * (m + 1) ≤ 400000) (hs : h 0 = cI (Ls L f)) : Rn (d + 200) (4 * m) (2103 * m) mL_law 1147 [some (vR (some 0)), some (vR (some 1)), some (vR (some 301)), some (vI i)] [] h n Q := by
  obtain ⟨ok, ov, of, ox, ovx, vx, oc, oc2⟩ := id v
  refine BL_law_1147 (by omega) hs (by omega) (Ls_get (by omega) (by omega)) s.2.1 ?_
  refine P_code s ok fun h1 s1 => ?_
  have hs1 : h1 0 = cI (Ls L f) := (s1.1.1 0 (.inl rfl)).trans hs
  have m1 := po_mo s1 mo
  obtain ⟨M1, e1, _⟩ := id m1
  refine BL_law_1156 (by omega) hs1 (by omega) (Ls_get (by omega) (by omega)) e1.o ?_
  refine M_code m1  fun h2 m2 => ?_
  refine BL_law_1165 (fun _ => ?_) fun w => absurd rfl w
  have c := clo s1 m2
  exact nx h2 n _ _ _ _ cm hn c.1 c.2.1 (v.say (say_code ok oc)) ⟨c0, by omega⟩ (c.2.2.trans hs)
theorem lw9_clear (nx : NX d m f L i Q) (hL : L ≤ 3072) (m5 : m ≤ 511) (i0 : 0 ≤ i) (i1 : i + 6 ≤ L) (hn : 317 ≤ n) (s : IsPo h h W V X F) (mo : IsMo h h W V X F BZ 1 cm) (v : Inv W V X F) (c0 : 0 ≤ cm) (c1 : cm + 720 * (m + 1) ≤ 400000) (hs : h 0 = cI (Ls L f)) : Rn (d + 200) (4 * m) (2103 * m) mL_law 1170 [some (vR (some 0)), some (vR (some 1)), some (vR (some 301)), some (vI i)] [] h n Q := by
  obtain ⟨ok, ov, of, ox, ovx, vx, oc, oc2⟩ := id v
  refine BL_law_1170 (by omega) hs (by omega) (Ls_get (by omega) (by omega)) s.2.1 ?_
  refine P_clear s ok fun h1 s1 => ?_
  have hs1 : h1 0 = cI (Ls L f) := (s1.1.1 0 (.inl rfl)).trans hs
  have m1 := po_mo s1 mo
  obtain ⟨M1, e1, _⟩ := id m1
  refine BL_law_1179 (by omega) hs1 (by omega) (Ls_get (by omega) (by omega)) e1.o ?_
  refine M_clear m1 oc fun h2 m2 => ?_
  refine BL_law_1188 (fun _ => ?_) fun w => absurd rfl w
  have c := clo s1 m2
  exact nx h2 n _ _ _ _ cm hn c.1 c.2.1 (v) ⟨c0, by omega⟩ (c.2.2.trans hs)
theorem lw9_reads (nx : NX d m f L i Q) (hL : L ≤ 3072) (m5 : m ≤ 511) (i0 : 0 ≤ i) (i1 : i + 6 ≤ L) (hn : 317 ≤ n) (s : IsPo h h W V X F) (mo : IsMo h h W V X F BZ 1 cm) (v : Inv W V X F) (c0 : 0 ≤ cm) (c1 : cm + 720 * (m + 1) ≤ 400000) (hs : h 0 = cI (Ls L f)) : Rn (d + 200) (4 * m) (2103 * m) mL_law 1193 [some (vR (some 0)), some (vR (some 1)), some (vR (some 301)), some (vI i)] [] h n Q := by
  obtain ⟨ok, ov, of, ox, ovx, vx, oc, oc2⟩ := id v
  refine BL_law_1193 (by omega) hs (by omega) (Ls_get (by omega) (by omega)) s.2.1 ?_
  refine P_reads s ok fun h1 s1 => ?_
  have hs1 : h1 0 = cI (Ls L f) := (s1.1.1 0 (.inl rfl)).trans hs
  have m1 := po_mo s1 mo
  obtain ⟨M1, e1, _⟩ := id m1
  refine BL_law_1202 (by omega) hs1 (by omega) (Ls_get (by omega) (by omega)) e1.o ?_
  refine M_reads m1 ok fun h2 m2 => ?_
  refine BL_law_1211 (fun _ => ?_) fun w => absurd rfl w
  have c := clo s1 m2
  exact nx h2 n _ _ _ _ cm hn c.1 c.2.1 (v) ⟨c0, by omega⟩ (c.2.2.trans hs)
theorem lw9_halves (nx : NX d m f L i Q) (hL : L ≤ 3072) (m5 : m ≤ 511) (i0 : 0 ≤ i) (i1 : i + 6 ≤ L) (hn : 317 ≤ n) (s : IsPo h h W V X F) (mo : IsMo h h W V X F BZ 1 cm) (v : Inv W V X F) (c0 : 0 ≤ cm) (c1 : cm + 720 * (m + 1) ≤ 400000) (hs : h 0 = cI (Ls L f)) : Rn (d + 200) (4 * m) (2103 * m) mL_law 1217 [some (vR (some 0)), some (vR (some 1)), some (vR (some 301)), some (vI i)] [] h n Q := by
  obtain ⟨ok, ov, of, ox, ovx, vx, oc, oc2⟩ := id v
  refine BL_law_1217 (by omega) hs (by omega) (Ls_get (by omega) (by omega)) (by omega) (by omega) (Ls_get (by omega) (by omega)) s.2.1 ?_
  refine P_halves s  fun h1 s1 => ?_
  have hs1 : h1 0 = cI (Ls L f) := (s1.1.1 0 (.inl rfl)).trans hs
  have m1 := po_mo s1 mo
  obtain ⟨M1, e1, _⟩ := id m1
  refine BL_law_1231 (by omega) hs1 (by omega) (Ls_get (by omega) (by omega)) (by omega) (by omega) (Ls_get (by omega) (by omega)) e1.o ?_
  refine M_halves m1 ok fun h2 m2 => ?_
  refine BL_law_1245 (fun _ => ?_) fun w => absurd rfl w
  have c := clo s1 m2
  exact nx h2 n _ _ _ _ cm hn c.1 c.2.1 (v.say (say_halves ok oc)) ⟨c0, by omega⟩ (c.2.2.trans hs)
theorem lw9_sorters (nx : NX d m f L i Q) (hL : L ≤ 3072) (m5 : m ≤ 511) (i0 : 0 ≤ i) (i1 : i + 6 ≤ L) (hn : 317 ≤ n) (s : IsPo h h W V X F) (mo : IsMo h h W V X F BZ 1 cm) (v : Inv W V X F) (c0 : 0 ≤ cm) (c1 : cm + 720 * (m + 1) ≤ 400000) (hs : h 0 = cI (Ls L f)) : Rn (d + 200) (4 * m) (2103 * m) mL_law 1250 [some (vR (some 0)), some (vR (some 1)), some (vR (some 301)), some (vI i)] [] h n Q := by
  obtain ⟨ok, ov, of, ox, ovx, vx, oc, oc2⟩ := id v
  refine BL_law_1250 (by omega) hs (by omega) (Ls_get (by omega) (by omega)) s.2.1 ?_
  have go : ∀ h1, IsPo h h1 W V X F → Rn (d + 200) (4 * m) (2103 * m) mL_law 1259 [some (vR (some 0)), some (vR (some 1)), some (vR (some 301)), some (vI i)] [vI (aSorters W (f (i + 1)))] h1 n Q := by
    intro h1 s1
    have hs1 : h1 0 = cI (Ls L f) := (s1.1.1 0 (.inl rfl)).trans hs
    have m1 := po_mo s1 mo
    obtain ⟨M1, e1, _⟩ := id m1
    refine BL_law_1259 (by omega) hs1 (by omega) (Ls_get (by omega) (by omega)) e1.o ?_
    refine M_sorters m1 ok fun h2 m2 => ?_
    refine BL_law_1268 (fun _ => ?_) fun w => absurd rfl w
    have c := clo s1 m2
    exact nx h2 n _ _ _ _ cm hn c.1 c.2.1 (v) ⟨c0, by omega⟩ (c.2.2.trans hs)
  refine P_sorters s (fun z => ?_) fun x0 x8 h1 A s1 => ?_
  · have e : aSorters W (f (i + 1)) = -1 := if_neg (by omega)
    have q := go h s
    rw [e] at q
    exact q
  · have q := go h1 s1
    rw [← (sr_eq (A := A) x0 x8).1] at q
    exact q
theorem lw9_sorter (nx : NX d m f L i Q) (hL : L ≤ 3072) (m5 : m ≤ 511) (i0 : 0 ≤ i) (i1 : i + 6 ≤ L) (hn : 317 ≤ n) (s : IsPo h h W V X F) (mo : IsMo h h W V X F BZ 1 cm) (v : Inv W V X F) (c0 : 0 ≤ cm) (c1 : cm + 720 * (m + 1) ≤ 400000) (hs : h 0 = cI (Ls L f)) : Rn (d + 200) (4 * m) (2103 * m) mL_law 1273 [some (vR (some 0)), some (vR (some 1)), some (vR (some 301)), some (vI i)] [] h n Q := by
  obtain ⟨ok, ov, of, ox, ovx, vx, oc, oc2⟩ := id v
  refine BL_law_1273 (by omega) hs (by omega) (Ls_get (by omega) (by omega)) (by omega) (by omega) (Ls_get (by omega) (by omega)) s.2.1 ?_
  have go : ∀ h1, IsPo h h1 W V X F → Rn (d + 200) (4 * m) (2103 * m) mL_law 1287 [some (vR (some 0)), some (vR (some 1)), some (vR (some 301)), some (vI i)] [vI (aSorter W (f (i + 1)) (f (i + 2)))] h1 n Q := by
    intro h1 s1
    have hs1 : h1 0 = cI (Ls L f) := (s1.1.1 0 (.inl rfl)).trans hs
    have m1 := po_mo s1 mo
    obtain ⟨M1, e1, _⟩ := id m1
    refine BL_law_1287 (by omega) hs1 (by omega) (Ls_get (by omega) (by omega)) (by omega) (by omega) (Ls_get (by omega) (by omega)) e1.o ?_
    refine M_sorter m1 ok fun h2 m2 => ?_
    refine BL_law_1301 (fun _ => ?_) fun w => absurd rfl w
    have c := clo s1 m2
    exact nx h2 n _ _ _ _ cm hn c.1 c.2.1 (v) ⟨c0, by omega⟩ (c.2.2.trans hs)
  refine P_sorter s (fun z => ?_) fun l0 l1 x8 h1 A s1 => ?_
  · have e : aSorter W (f (i + 1)) (f (i + 2)) = -1 := if_neg (by omega)
    have q := go h s
    rw [e] at q
    exact q
  · have q := go h1 s1
    rw [← (sr_eq (A := A) (x := f (i + 1)) (by omega) x8).2 _ l0 l1] at q
    exact q
theorem lw9_writes (nx : NX d m f L i Q) (hL : L ≤ 3072) (m5 : m ≤ 511) (i0 : 0 ≤ i) (i1 : i + 6 ≤ L) (hn : 317 ≤ n) (s : IsPo h h W V X F) (mo : IsMo h h W V X F BZ 1 cm) (v : Inv W V X F) (c0 : 0 ≤ cm) (c1 : cm + 720 * (m + 1) ≤ 400000) (hs : h 0 = cI (Ls L f)) : Rn (d + 200) (4 * m) (2103 * m) mL_law 1306 [some (vR (some 0)), some (vR (some 1)), some (vR (some 301)), some (vI i)] [] h n Q := by
  obtain ⟨ok, ov, of, ox, ovx, vx, oc, oc2⟩ := id v
  refine BL_law_1306 (by omega) hs (by omega) (Ls_get (by omega) (by omega)) (by omega) (by omega) (Ls_get (by omega) (by omega)) s.2.1 ?_
  refine P_writes s  fun h1 s1 => ?_
  have hs1 : h1 0 = cI (Ls L f) := (s1.1.1 0 (.inl rfl)).trans hs
  have m1 := po_mo s1 mo
  obtain ⟨M1, e1, _⟩ := id m1
  refine BL_law_1320 (by omega) hs1 (by omega) (Ls_get (by omega) (by omega)) (by omega) (by omega) (Ls_get (by omega) (by omega)) e1.o ?_
  refine M_writes m1 ok fun h2 m2 => ?_
  refine BL_law_1334 (fun _ => ?_) fun w => absurd rfl w
  have c := clo s1 m2
  exact nx h2 n _ _ _ _ cm hn c.1 c.2.1 (v.say (say_writes ok oc)) ⟨c0, by omega⟩ (c.2.2.trans hs)
theorem lw9_orders (nx : NX d m f L i Q) (hL : L ≤ 3072) (m5 : m ≤ 511) (i0 : 0 ≤ i) (i1 : i + 6 ≤ L) (hn : 317 ≤ n) (s : IsPo h h W V X F) (mo : IsMo h h W V X F BZ 1 cm) (v : Inv W V X F) (c0 : 0 ≤ cm) (c1 : cm + 720 * (m + 1) ≤ 400000) (hs : h 0 = cI (Ls L f)) : Rn (d + 200) (4 * m) (2103 * m) mL_law 1339 [some (vR (some 0)), some (vR (some 1)), some (vR (some 301)), some (vI i)] [] h n Q := by
  obtain ⟨ok, ov, of, ox, ovx, vx, oc, oc2⟩ := id v
  refine BL_law_1339 (by omega) hs (by omega) (Ls_get (by omega) (by omega)) s.2.1 ?_
  refine P_orders s  fun h1 s1 => ?_
  have hs1 : h1 0 = cI (Ls L f) := (s1.1.1 0 (.inl rfl)).trans hs
  have m1 := po_mo s1 mo
  obtain ⟨M1, e1, _⟩ := id m1
  refine BL_law_1348 (by omega) hs1 (by omega) (Ls_get (by omega) (by omega)) e1.o ?_
  refine M_orders m1 ok fun h2 m2 => ?_
  refine BL_law_1357 (fun _ => ?_) fun w => absurd rfl w
  have c := clo s1 m2
  exact nx h2 n _ _ _ _ cm hn c.1 c.2.1 (v) ⟨c0, by omega⟩ (c.2.2.trans hs)
theorem lw9_sure (nx : NX d m f L i Q) (hL : L ≤ 3072) (m5 : m ≤ 511) (i0 : 0 ≤ i) (i1 : i + 6 ≤ L) (hn : 317 ≤ n) (s : IsPo h h W V X F) (mo : IsMo h h W V X F BZ 1 cm) (v : Inv W V X F) (c0 : 0 ≤ cm) (c1 : cm + 720 * (m + 1) ≤ 400000) (hs : h 0 = cI (Ls L f)) : Rn (d + 200) (4 * m) (2103 * m) mL_law 1363 [some (vR (some 0)), some (vR (some 1)), some (vR (some 301)), some (vI i)] [] h n Q := by
  obtain ⟨ok, ov, of, ox, ovx, vx, oc, oc2⟩ := id v
  refine BL_law_1363 (by omega) hs (by omega) (Ls_get (by omega) (by omega)) (by omega) (by omega) (Ls_get (by omega) (by omega)) (by omega) (by omega) (Ls_get (by omega) (by omega)) s.2.1 ?_
  refine P_sure s  fun h1 s1 => ?_
  have hs1 : h1 0 = cI (Ls L f) := (s1.1.1 0 (.inl rfl)).trans hs
  have m1 := po_mo s1 mo
  obtain ⟨M1, e1, _⟩ := id m1
  refine BL_law_1382 (by omega) hs1 (by omega) (Ls_get (by omega) (by omega)) (by omega) (by omega) (Ls_get (by omega) (by omega)) (by omega) (by omega) (Ls_get (by omega) (by omega)) e1.o ?_
  refine M_sure m1 ok fun h2 m2 => ?_
  refine BL_law_1401 (fun _ => ?_) fun w => absurd rfl w
  have c := clo s1 m2
  exact nx h2 n _ _ _ _ cm hn c.1 c.2.1 (v) ⟨c0, by omega⟩ (c.2.2.trans hs)
theorem lw9_said (nx : NX d m f L i Q) (hL : L ≤ 3072) (m5 : m ≤ 511) (i0 : 0 ≤ i) (i1 : i + 6 ≤ L) (hn : 317 ≤ n) (s : IsPo h h W V X F) (mo : IsMo h h W V X F BZ 1 cm) (v : Inv W V X F) (c0 : 0 ≤ cm) (c1 : cm + 720 * (m + 1) ≤ 400000) (hs : h 0 = cI (Ls L f)) : Rn (d + 200) (4 * m) (2103 * m) mL_law 1406 [some (vR (some 0)), some (vR (some 1)), some (vR (some 301)), some (vI i)] [] h n Q := by
  obtain ⟨ok, ov, of, ox, ovx, vx, oc, oc2⟩ := id v
  refine BL_law_1406 (by omega) hs (by omega) (Ls_get (by omega) (by omega)) (by omega) (by omega) (Ls_get (by omega) (by omega)) s.2.1 ?_
  refine P_said s ok fun h1 s1 => ?_
  have hs1 : h1 0 = cI (Ls L f) := (s1.1.1 0 (.inl rfl)).trans hs
  have m1 := po_mo s1 mo
  obtain ⟨M1, e1, _⟩ := id m1
  refine BL_law_1420 (by omega) hs1 (by omega) (Ls_get (by omega) (by omega)) (by omega) (by omega) (Ls_get (by omega) (by omega)) e1.o ?_
  refine M_said m1  fun h2 m2 => ?_
  refine BL_law_1434 (fun _ => ?_) fun w => absurd rfl w
  have c := clo s1 m2
  exact nx h2 n _ _ _ _ cm hn c.1 c.2.1 (v.say (say_said ok oc)) ⟨c0, by omega⟩ (c.2.2.trans hs)
theorem lw9_whose (nx : NX d m f L i Q) (hL : L ≤ 3072) (m5 : m ≤ 511) (i0 : 0 ≤ i) (i1 : i + 6 ≤ L) (hn : 317 ≤ n) (s : IsPo h h W V X F) (mo : IsMo h h W V X F BZ 1 cm) (v : Inv W V X F) (c0 : 0 ≤ cm) (c1 : cm + 720 * (m + 1) ≤ 400000) (hs : h 0 = cI (Ls L f)) : Rn (d + 200) (4 * m) (2103 * m) mL_law 1439 [some (vR (some 0)), some (vR (some 1)), some (vR (some 301)), some (vI i)] [] h n Q := by
  obtain ⟨ok, ov, of, ox, ovx, vx, oc, oc2⟩ := id v
  refine BL_law_1439 s.2.1 ?_
  refine P_whose s ok fun h1 s1 => ?_
  have hs1 : h1 0 = cI (Ls L f) := (s1.1.1 0 (.inl rfl)).trans hs
  have m1 := po_mo s1 mo
  obtain ⟨M1, e1, _⟩ := id m1
  refine BL_law_1443 e1.o ?_
  refine M_whose m1 ok fun h2 m2 => ?_
  refine BL_law_1447 (fun _ => ?_) fun w => absurd rfl w
  have c := clo s1 m2
  exact nx h2 n _ _ _ _ cm hn c.1 c.2.1 (v) ⟨c0, by omega⟩ (c.2.2.trans hs)
theorem lw9_luckiest (nx : NX d m f L i Q) (hL : L ≤ 3072) (m5 : m ≤ 511) (i0 : 0 ≤ i) (i1 : i + 6 ≤ L) (hn : 317 ≤ n) (s : IsPo h h W V X F) (mo : IsMo h h W V X F BZ 1 cm) (v : Inv W V X F) (c0 : 0 ≤ cm) (c1 : cm + 720 * (m + 1) ≤ 400000) (hs : h 0 = cI (Ls L f)) : Rn (d + 200) (4 * m) (2103 * m) mL_law 1452 [some (vR (some 0)), some (vR (some 1)), some (vR (some 301)), some (vI i)] [] h n Q := by
  obtain ⟨ok, ov, of, ox, ovx, vx, oc, oc2⟩ := id v
  refine BL_law_1452 s.2.1 ?_
  refine P_luckiest s ok fun h1 s1 => ?_
  have hs1 : h1 0 = cI (Ls L f) := (s1.1.1 0 (.inl rfl)).trans hs
  have m1 := po_mo s1 mo
  obtain ⟨M1, e1, _⟩ := id m1
  refine BL_law_1456 e1.o ?_
  refine M_luckiest m1  fun h2 m2 => ?_
  refine BL_law_1460 (fun _ => ?_) fun w => absurd rfl w
  have c := clo s1 m2
  exact nx h2 n _ _ _ _ cm hn c.1 c.2.1 (v) ⟨c0, by omega⟩ (c.2.2.trans hs)
theorem lw9_eldest (nx : NX d m f L i Q) (hL : L ≤ 3072) (m5 : m ≤ 511) (i0 : 0 ≤ i) (i1 : i + 6 ≤ L) (hn : 317 ≤ n) (s : IsPo h h W V X F) (mo : IsMo h h W V X F BZ 1 cm) (v : Inv W V X F) (c0 : 0 ≤ cm) (c1 : cm + 720 * (m + 1) ≤ 400000) (hs : h 0 = cI (Ls L f)) : Rn (d + 200) (4 * m) (2103 * m) mL_law 1465 [some (vR (some 0)), some (vR (some 1)), some (vR (some 301)), some (vI i)] [] h n Q := by
  obtain ⟨ok, ov, of, ox, ovx, vx, oc, oc2⟩ := id v
  refine BL_law_1465 s.2.1 ?_
  refine P_eldest s ok fun h1 s1 => ?_
  have hs1 : h1 0 = cI (Ls L f) := (s1.1.1 0 (.inl rfl)).trans hs
  have m1 := po_mo s1 mo
  obtain ⟨M1, e1, _⟩ := id m1
  refine BL_law_1469 e1.o ?_
  refine M_eldest m1  fun h2 m2 => ?_
  refine BL_law_1473 (fun _ => ?_) fun w => absurd rfl w
  have c := clo s1 m2
  exact nx h2 n _ _ _ _ cm hn c.1 c.2.1 (v) ⟨c0, by omega⟩ (c.2.2.trans hs)
theorem lw9_crowd (nx : NX d m f L i Q) (hL : L ≤ 3072) (m5 : m ≤ 511) (i0 : 0 ≤ i) (i1 : i + 6 ≤ L) (hn : 317 ≤ n) (s : IsPo h h W V X F) (mo : IsMo h h W V X F BZ 1 cm) (v : Inv W V X F) (c0 : 0 ≤ cm) (c1 : cm + 720 * (m + 1) ≤ 400000) (hs : h 0 = cI (Ls L f)) : Rn (d + 200) (4 * m) (2103 * m) mL_law 1478 [some (vR (some 0)), some (vR (some 1)), some (vR (some 301)), some (vI i)] [] h n Q := by
  obtain ⟨ok, ov, of, ox, ovx, vx, oc, oc2⟩ := id v
  refine BL_law_1478 s.2.1 ?_
  refine P_crowd s ok fun h1 s1 => ?_
  have hs1 : h1 0 = cI (Ls L f) := (s1.1.1 0 (.inl rfl)).trans hs
  have m1 := po_mo s1 mo
  obtain ⟨M1, e1, _⟩ := id m1
  refine BL_law_1482 e1.o ?_
  refine M_crowd m1  fun h2 m2 => ?_
  refine BL_law_1486 (fun _ => ?_) fun w => absurd rfl w
  have c := clo s1 m2
  exact nx h2 n _ _ _ _ cm hn c.1 c.2.1 (v) ⟨c0, by omega⟩ (c.2.2.trans hs)
theorem lw9_empty (nx : NX d m f L i Q) (hL : L ≤ 3072) (m5 : m ≤ 511) (i0 : 0 ≤ i) (i1 : i + 6 ≤ L) (hn : 317 ≤ n) (s : IsPo h h W V X F) (mo : IsMo h h W V X F BZ 1 cm) (v : Inv W V X F) (c0 : 0 ≤ cm) (c1 : cm + 720 * (m + 1) ≤ 400000) (hs : h 0 = cI (Ls L f)) : Rn (d + 200) (4 * m) (2103 * m) mL_law 1491 [some (vR (some 0)), some (vR (some 1)), some (vR (some 301)), some (vI i)] [] h n Q := by
  obtain ⟨ok, ov, of, ox, ovx, vx, oc, oc2⟩ := id v
  refine BL_law_1491 s.2.1 ?_
  refine P_empty s ok fun h1 s1 => ?_
  have hs1 : h1 0 = cI (Ls L f) := (s1.1.1 0 (.inl rfl)).trans hs
  have m1 := po_mo s1 mo
  obtain ⟨M1, e1, _⟩ := id m1
  refine BL_law_1495 e1.o ?_
  refine M_empty m1 ok fun h2 m2 => ?_
  refine BL_law_1499 (fun _ => ?_) fun w => absurd rfl w
  have c := clo s1 m2
  exact nx h2 n _ _ _ _ cm hn c.1 c.2.1 (v) ⟨c0, by omega⟩ (c.2.2.trans hs)
theorem lw9_ledger (nx : NX d m f L i Q) (hL : L ≤ 3072) (m5 : m ≤ 511) (i0 : 0 ≤ i) (i1 : i + 6 ≤ L) (hn : 317 ≤ n) (s : IsPo h h W V X F) (mo : IsMo h h W V X F BZ 1 cm) (v : Inv W V X F) (c0 : 0 ≤ cm) (c1 : cm + 720 * (m + 1) ≤ 400000) (hs : h 0 = cI (Ls L f)) : Rn (d + 200) (4 * m) (2103 * m) mL_law 1504 [some (vR (some 0)), some (vR (some 1)), some (vR (some 301)), some (vI i)] [] h n Q := by
  obtain ⟨ok, ov, of, ox, ovx, vx, oc, oc2⟩ := id v
  refine BL_law_1504 (by omega) hs (by omega) (Ls_get (by omega) (by omega)) s.2.1 ?_
  refine P_ledger s ok fun h1 s1 => ?_
  have hs1 : h1 0 = cI (Ls L f) := (s1.1.1 0 (.inl rfl)).trans hs
  have m1 := po_mo s1 mo
  obtain ⟨M1, e1, _⟩ := id m1
  refine BL_law_1513 (by omega) hs1 (by omega) (Ls_get (by omega) (by omega)) e1.o ?_
  refine M_ledger m1  fun h2 m2 => ?_
  refine BL_law_1522 (fun _ => ?_) fun w => absurd rfl w
  have c := clo s1 m2
  exact nx h2 n _ _ _ _ cm hn c.1 c.2.1 (v) ⟨c0, by omega⟩ (c.2.2.trans hs)
theorem lw9_image (nx : NX d m f L i Q) (hL : L ≤ 3072) (m5 : m ≤ 511) (i0 : 0 ≤ i) (i1 : i + 6 ≤ L) (hn : 317 ≤ n) (s : IsPo h h W V X F) (mo : IsMo h h W V X F BZ 1 cm) (v : Inv W V X F) (c0 : 0 ≤ cm) (c1 : cm + 720 * (m + 1) ≤ 400000) (hs : h 0 = cI (Ls L f)) : Rn (d + 200) (4 * m) (2103 * m) mL_law 1527 [some (vR (some 0)), some (vR (some 1)), some (vR (some 301)), some (vI i)] [] h n Q := by
  obtain ⟨ok, ov, of, ox, ovx, vx, oc, oc2⟩ := id v
  refine BL_law_1527 s.2.1 ?_
  refine P_image s ok fun h1 s1 => ?_
  have hs1 : h1 0 = cI (Ls L f) := (s1.1.1 0 (.inl rfl)).trans hs
  have m1 := po_mo s1 mo
  obtain ⟨M1, e1, _⟩ := id m1
  refine BL_law_1531 e1.o ?_
  refine M_image m1  fun h2 m2 => ?_
  refine BL_law_1535 (fun _ => ?_) fun w => absurd rfl w
  have c := clo s1 m2
  exact nx h2 n _ _ _ _ cm hn c.1 c.2.1 (v.image) ⟨c0, by omega⟩ (c.2.2.trans hs)
theorem lw9_back (nx : NX d m f L i Q) (hL : L ≤ 3072) (m5 : m ≤ 511) (i0 : 0 ≤ i) (i1 : i + 6 ≤ L) (hn : 317 ≤ n) (s : IsPo h h W V X F) (mo : IsMo h h W V X F BZ 1 cm) (v : Inv W V X F) (c0 : 0 ≤ cm) (c1 : cm + 720 * (m + 1) ≤ 400000) (hs : h 0 = cI (Ls L f)) : Rn (d + 200) (4 * m) (2103 * m) mL_law 1540 [some (vR (some 0)), some (vR (some 1)), some (vR (some 301)), some (vI i)] [] h n Q := by
  obtain ⟨ok, ov, of, ox, ovx, vx, oc, oc2⟩ := id v
  refine BL_law_1540 s.2.1 ?_
  refine P_back s ov fun h1 s1 => ?_
  have hs1 : h1 0 = cI (Ls L f) := (s1.1.1 0 (.inl rfl)).trans hs
  have m1 := po_mo s1 mo
  obtain ⟨M1, e1, _⟩ := id m1
  refine BL_law_1544 e1.o ?_
  refine M_back m1 ov.n vx fun h2 m2 => ?_
  refine BL_law_1548 (fun _ => ?_) fun w => absurd rfl w
  have c := clo s1 m2
  exact nx h2 n _ _ _ _ cm hn c.1 c.2.1 (v.back) ⟨c0, by omega⟩ (c.2.2.trans hs)
theorem lw9_about (nx : NX d m f L i Q) (hL : L ≤ 3072) (m5 : m ≤ 511) (i0 : 0 ≤ i) (i1 : i + 6 ≤ L) (hn : 317 ≤ n) (s : IsPo h h W V X F) (mo : IsMo h h W V X F BZ 1 cm) (v : Inv W V X F) (c0 : 0 ≤ cm) (c1 : cm + 720 * (m + 1) ≤ 400000) (hs : h 0 = cI (Ls L f)) : Rn (d + 200) (4 * m) (2103 * m) mL_law 1553 [some (vR (some 0)), some (vR (some 1)), some (vR (some 301)), some (vI i)] [] h n Q := by
  obtain ⟨ok, ov, of, ox, ovx, vx, oc, oc2⟩ := id v
  refine BL_law_1553 (by omega) hs (by omega) (Ls_get (by omega) (by omega)) s.2.1 ?_
  refine P_about s  fun h1 s1 => ?_
  have hs1 : h1 0 = cI (Ls L f) := (s1.1.1 0 (.inl rfl)).trans hs
  have m1 := po_mo s1 mo
  obtain ⟨M1, e1, _⟩ := id m1
  refine BL_law_1562 (by omega) hs1 (by omega) (Ls_get (by omega) (by omega)) e1.o ?_
  refine M_about m1  fun h2 m2 => ?_
  refine BL_law_1571 (fun _ => ?_) fun w => absurd rfl w
  have c := clo s1 m2
  exact nx h2 n _ _ _ _ cm hn c.1 c.2.1 (v) ⟨c0, by omega⟩ (c.2.2.trans hs)
end LAWCALLS
