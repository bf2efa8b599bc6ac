/-! The post: one object at 1, all that is its own behind it up to 300. F: 0 fault, 1 its place, 2 the tape's length, 3.. its bytes. -/
def FP (g h : aH) : Prop := (∀ x, (x = 0 ∨ (301 ≤ x ∧ x ≤ 316)) → h x = g x) ∧ ∀ x, 317 ≤ x → g x ≠ cN → h x = g x
theorem FP.fr {g h h1 : aH} {lo k : Nat} (p : FP g h) (f : Fr h h1 lo k) (h0 : 1 ≤ lo) (h2 : lo + k ≤ 301) : FP g h1 := ⟨fun x hx => by rw [f x (by omega)]; exact p.1 x hx, fun x hx hn => by rw [f x (by omega)]; exact p.2 x hx hn⟩
def IsTp (h : aH) (F : Int → Int) : Prop := ∃ n1 n2 n3 n4 : Int, h 282 = cO 9 [vR (some 283), vI (F 2), vI n1, vI n2, vI n3, vI n4] ∧ h 283 = cI (Ls 300 (off 3 F))
def IsGr (h : aH) : Prop := ∃ (n1 n2 n3 n4 : Int) (c w : Option Nat) (n5 n6 : Int) (cl sg : Int → Int), h 284 = cO 1 [vR (some 285), vR (some 286), vI n1, vI n2, vI n3, vI n4, vR c, vR w, vI n5, vI n6] ∧ h 285 = cI (Ls 96 cl) ∧ h 286 = cI (Ls 300 sg)
def IsRo (h : aH) : Prop := ∃ (n1 n2 n3 n4 n5 : Int) (f1 f2 : Int → Int), h 289 = cO 4 [vI n1, vR (some 290), vR (some 291), vI n2, vI n3, vI n4, vI n5] ∧ h 290 = cI (Ls 4 f1) ∧ h 291 = cI (Ls 4 f2)
def IsRi (h : aH) : Prop := ∃ (n1 n2 : Int) (f1 f2 f3 f4 : Int → Int), h 292 = cO 3 [vR (some 293), vR (some 294), vR (some 295), vR (some 296), vI n1, vI n2] ∧ h 293 = cI (Ls 32 f1) ∧ h 294 = cJ (Ls 10 f2) ∧ h 295 = cI (Ls 8 f3) ∧ h 296 = cJ (Ls 256 f4)
theorem IsTp.fr {h h1 : aH} {F : Int → Int} {lo k : Nat} (s : IsTp h F) (f : Fr h h1 lo k) (hd : 284 ≤ lo ∨ lo + k ≤ 282) : IsTp h1 F := by
  obtain ⟨n1, n2, n3, n4, s1, s2⟩ := s
  exact ⟨n1, n2, n3, n4, by rw [f _ (by omega)]; exact s1, by rw [f _ (by omega)]; exact s2⟩
theorem IsGr.fr {h h1 : aH} {lo k : Nat} (s : IsGr h) (f : Fr h h1 lo k) (hd : 287 ≤ lo ∨ lo + k ≤ 284) : IsGr h1 := by
  obtain ⟨n1, n2, n3, n4, c, w, n5, n6, cl, sg, s1, s2, s3⟩ := s
  exact ⟨n1, n2, n3, n4, c, w, n5, n6, cl, sg, by rw [f _ (by omega)]; exact s1, by rw [f _ (by omega)]; exact s2, by rw [f _ (by omega)]; exact s3⟩
theorem IsRo.fr {h h1 : aH} {lo k : Nat} (s : IsRo h) (f : Fr h h1 lo k) (hd : 292 ≤ lo ∨ lo + k ≤ 289) : IsRo h1 := by
  obtain ⟨n1, n2, n3, n4, n5, f1, f2, s1, s2, s3⟩ := s
  exact ⟨n1, n2, n3, n4, n5, f1, f2, by rw [f _ (by omega)]; exact s1, by rw [f _ (by omega)]; exact s2, by rw [f _ (by omega)]; exact s3⟩
theorem IsRi.fr {h h1 : aH} {lo k : Nat} (s : IsRi h) (f : Fr h h1 lo k) (hd : 297 ≤ lo ∨ lo + k ≤ 292) : IsRi h1 := by
  obtain ⟨n1, n2, f1, f2, f3, f4, s1, s2, s3, s4, s5⟩ := s
  exact ⟨n1, n2, f1, f2, f3, f4, by rw [f _ (by omega)]; exact s1, by rw [f _ (by omega)]; exact s2, by rw [f _ (by omega)]; exact s3, by rw [f _ (by omega)]; exact s4, by rw [f _ (by omega)]; exact s5⟩
abbrev poF (F : Int → Int) : aC := cO 12 [vR (some 2), vR (some 142), vR (some 282), vR (some 284), vR (some 287), vR (some 289), vR (some 292), vR (some 297), vI (F 0), vI (F 1)]
def IsPo (g h : aH) (W V : Int → Int → Int) (X : Int → Tx) (F : Int → Int) : Prop := FP g h ∧ h 1 = poF F ∧ IsW h 2 W X ∧ IsW h 142 V X ∧ IsTp h F ∧ IsGr h ∧ (∃ l, IsLl h 287 l) ∧ IsRo h ∧ IsRi h ∧ ∃ G, IsSe h 297 G
section POST
variable {g h h1 : aH} {W V W2 : Int → Int → Int} {X : Int → Tx} {F F2 G2 : Int → Int} {l2 : List Int}
theorem IsPo.now (s : IsPo g h W V X F) (f : Fr h h1 2 140) (e : IsW h1 2 W2 X) : IsPo g h1 W2 V X F := by
  obtain ⟨s0, s1, s2, s3, s4, s5, ⟨l, s6⟩, s7, s8, G, s9⟩ := s
  exact ⟨s0.fr f (by decide) (by decide), by rw [f _ (by decide)]; exact s1, e, s3.fr f (by decide) (by decide), s4.fr f (by decide), s5.fr f (by decide), ⟨l, s6.fr f (by decide)⟩, s7.fr f (by decide), s8.fr f (by decide), G, s9.fr f (by decide)⟩
theorem IsPo.kep (s : IsPo g h W V X F) (f : Fr h h1 142 140) (e : IsW h1 142 W2 X) : IsPo g h1 W W2 X F := by
  obtain ⟨s0, s1, s2, s3, s4, s5, ⟨l, s6⟩, s7, s8, G, s9⟩ := s
  exact ⟨s0.fr f (by decide) (by decide), by rw [f _ (by decide)]; exact s1, s2.fr f (by decide) (by decide), e, s4.fr f (by decide), s5.fr f (by decide), ⟨l, s6.fr f (by decide)⟩, s7.fr f (by decide), s8.fr f (by decide), G, s9.fr f (by decide)⟩
theorem IsPo.tap (s : IsPo g h W V X F) (f : Fr h h1 282 2) (e : IsTp h1 F2) (e0 : F2 0 = F 0) (e1 : F2 1 = F 1) : IsPo g h1 W V X F2 := by
  obtain ⟨s0, s1, s2, s3, s4, s5, ⟨l, s6⟩, s7, s8, G, s9⟩ := s
  exact ⟨s0.fr f (by decide) (by decide), by rw [f _ (by decide)]; unfold poF; rw [e0, e1]; exact s1, s2.fr f (by decide) (by decide), s3.fr f (by decide) (by decide), e, s5.fr f (by decide), ⟨l, s6.fr f (by decide)⟩, s7.fr f (by decide), s8.fr f (by decide), G, s9.fr f (by decide)⟩
theorem IsPo.law (s : IsPo g h W V X F) (f : Fr h h1 287 2) (e : IsLl h1 287 l2) : IsPo g h1 W V X F := by
  obtain ⟨s0, s1, s2, s3, s4, s5, ⟨l, s6⟩, s7, s8, G, s9⟩ := s
  exact ⟨s0.fr f (by decide) (by decide), by rw [f _ (by decide)]; exact s1, s2.fr f (by decide) (by decide), s3.fr f (by decide) (by decide), s4.fr f (by decide), s5.fr f (by decide), ⟨l2, e⟩, s7.fr f (by decide), s8.fr f (by decide), G, s9.fr f (by decide)⟩
theorem IsPo.rou (s : IsPo g h W V X F) (f : Fr h h1 289 3) (e : IsRo h1) : IsPo g h1 W V X F := by
  obtain ⟨s0, s1, s2, s3, s4, s5, ⟨l, s6⟩, s7, s8, G, s9⟩ := s
  exact ⟨s0.fr f (by decide) (by decide), by rw [f _ (by decide)]; exact s1, s2.fr f (by decide) (by decide), s3.fr f (by decide) (by decide), s4.fr f (by decide), s5.fr f (by decide), ⟨l, s6.fr f (by decide)⟩, e, s8.fr f (by decide), G, s9.fr f (by decide)⟩
theorem IsPo.rid (s : IsPo g h W V X F) (f : Fr h h1 292 5) (e : IsRi h1) : IsPo g h1 W V X F := by
  obtain ⟨s0, s1, s2, s3, s4, s5, ⟨l, s6⟩, s7, s8, G, s9⟩ := s
  exact ⟨s0.fr f (by decide) (by decide), by rw [f _ (by decide)]; exact s1, s2.fr f (by decide) (by decide), s3.fr f (by decide) (by decide), s4.fr f (by decide), s5.fr f (by decide), ⟨l, s6.fr f (by decide)⟩, s7.fr f (by decide), e, G, s9.fr f (by decide)⟩
theorem IsPo.gla (s : IsPo g h W V X F) (f : Fr h h1 297 4) (e : IsSe h1 297 G2) : IsPo g h1 W V X F := by
  obtain ⟨s0, s1, s2, s3, s4, s5, ⟨l, s6⟩, s7, s8, G, s9⟩ := s
  exact ⟨s0.fr f (by decide) (by decide), by rw [f _ (by decide)]; exact s1, s2.fr f (by decide) (by decide), s3.fr f (by decide) (by decide), s4.fr f (by decide), s5.fr f (by decide), ⟨l, s6.fr f (by decide)⟩, s7.fr f (by decide), s8.fr f (by decide), G2, e⟩
theorem IsPo.sea {S : Int → Int} (s : IsPo g h W V X F) (f : Fr h h1 (2 + 5) 4) (e : IsSe h1 (2 + 5) S) : IsPo g h1 (fset W 1 S) V X F := s.now (f.wd (by decide) (by decide)) (s.2.2.1.sea f e (by decide))
theorem IsPo.say {Y : Int → Int} (s : IsPo g h W V X F) (f : Fr h h1 (2 + 131) 8) (e : IsSa h1 (2 + 131) Y) : IsPo g h1 (fset W 2 Y) V X F := s.now (f.wd (by decide) (by decide)) (s.2.2.1.say f e (by decide))
theorem IsPo.sho {np : Int} {pl lk cu : Int → Int} (s : IsPo g h W V X F) (f : Fr h h1 (2 + 1) 4) (e : IsSh h1 (2 + 1) np pl lk cu) : IsPo g h1 (wSh W np pl lk cu) V X F := s.now (f.wd (by decide) (by decide)) (s.2.2.1.sho f e (by decide))
theorem IsPo.stp {c : Int} {T U : Int → Int → Int} {p : Int → Int} (s : IsPo g h W V X F) (f : Fr h h1 (2 + 9) 122) (e : IsSt h1 (2 + 9) c T p) (hu : ∀ j, 0 ≤ j → j < c → T j = U j) : IsPo g h1 (wSt W c U) V X F := s.now (f.wd (by decide) (by decide)) (s.2.2.1.stp f e hu (by decide))
theorem IsPo.cong (s : IsPo g h W V X F) (e0 : W2 0 = W 0) (e1 : W2 1 = W 1) (e2 : W2 2 = W 2) (e3 : ∀ i, 0 ≤ i → i ≤ 3 → W2 3 i = W 3 i) (e5 : W2 5 = W 5) (e6 : W2 6 = W 6) (e7 : ∀ j, 0 ≤ j → j < W 3 0 → W2 (10 + j) = W (10 + j)) : IsPo g h W2 V X F := by
  obtain ⟨s0, s1, s2, s3⟩ := s
  exact ⟨s0, s1, s2.cong e0 e1 e2 e3 e5 e6 e7, s3⟩
end POST
/-- what a world keeps -/
def okSy (Y : Int → Int) : Prop := (0 ≤ Y 52 ∧ Y 52 ≤ 6) ∧ (0 ≤ Y 53 ∧ Y 53 ≤ 8) ∧ (0 ≤ Y 54 ∧ Y 54 ≤ 8) ∧ (0 ≤ Y 55 ∧ 0 ≤ Y 56 ∧ Y 55 + Y 56 ≤ 10) ∧ (∀ i, 0 ≤ i → i < Y 52 → (0 ≤ Y i ∧ Y i ≤ 9) ∧ 1 ≤ Y (6 + i) ∧ Y (6 + i) ≤ 60) ∧ (∀ i, 0 ≤ i → i < Y 53 → 1 ≤ Y (12 + i) ∧ Y (12 + i) ≤ 9999) ∧ (∀ i, 0 ≤ i → i < 8 → (0 ≤ Y (20 + i) ∧ Y (20 + i) ≤ 255) ∧ 0 ≤ Y (28 + i) ∧ Y (28 + i) ≤ 255) ∧ ∀ i, 0 ≤ i → i < Y 54 → (0 ≤ Y (36 + i) ∧ Y (36 + i) ≤ 11) ∧ 0 ≤ Y (44 + i) ∧ Y (44 + i) ≤ 10
def okW (W : Int → Int → Int) : Prop := okSh (W 3 3) (W 0) (W 5) (W 6) ∧ okSe (W 3 3) (W 1) ∧ (0 ≤ W 3 0 ∧ W 3 0 ≤ 30 ∧ 0 ≤ W 3 1 ∧ W 3 1 ≤ 4 ∧ -1 ≤ W 3 2 ∧ W 3 2 < W 3 1) ∧ (∀ j, 0 ≤ j → j < W 3 0 → okSe (W 3 3) (W (10 + j))) ∧ okSy (W 2)
/-- the words of a world's changes -/
def keepM (W : Int → Int → Int) : Int → Int → Int := wSt W (stLen (W 3 0)) (stKeep (W 3 0) (fun j => W (10 + j)) (W 1))
def ruX (W : Int → Int → Int) (X : Int → Tx) : Option Tx := textX W X (W 3 2)
