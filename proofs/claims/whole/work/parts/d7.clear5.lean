/-! Clear: what the class's passes leave. -/
def SdG (Y G : Int → Int) : Prop := (∀ i, 0 ≤ i → i ≤ 32 → 0 ≤ G i ∧ G i ≤ 1000000) ∧ (∀ c b, 0 ≤ c → c < 8 → 0 ≤ b → b < 4 → G (c * 4 + b) < 1000000 → ∃ m, PcN Y m c b (G (c * 4 + b))) ∧ (G 32 < 1000000 → ∃ m c b w, PcN Y m c b (G 32) ∧ 0 ≤ w ∧ w < Y 53 ∧ Y (12 + w) = rstM Y c b)
/-- what a step of a pass does: it keeps sound, lowers, and tells when -/
def LwG (Y G G' : Int → Int) : Prop := SdG Y G' ∧ (∀ i, 0 ≤ i → i ≤ 32 → G' i ≤ G i) ∧ ((G' 33 = G 33 ∧ ∀ i, 0 ≤ i → i < 32 → G' i = G i) ∨ G' 33 = 1)
theorem LwG.rf {Y G : Int → Int} (s : SdG Y G) : LwG Y G G := ⟨s, fun _ _ _ => Int.le_refl _, .inl ⟨rfl, fun _ _ _ => rfl⟩⟩
theorem LwG.tr {Y G G1 G2 : Int → Int} (a : LwG Y G G1) (b : LwG Y G1 G2) : LwG Y G G2 := by
  obtain ⟨a1, a2, a3⟩ := a
  obtain ⟨b1, b2, b3⟩ := b
  refine ⟨b1, fun i i0 i1 => Int.le_trans (b2 i i0 i1) (a2 i i0 i1), ?_⟩
  rcases b3 with ⟨b3, b4⟩ | b3
  · rcases a3 with ⟨a3, a4⟩ | a3
    · exact .inl ⟨by rw [b3, a3], fun i i0 i1 => by rw [b4 i i0 i1, a4 i i0 i1]⟩
    · exact .inr (by rw [b3, a3])
  · exact .inr b3
/-- node (c, b) with digits v has been told word w -/
def rxG (Y G : Int → Int) (v c b w : Int) : Prop := (Y (12 + w) = rstM Y c b → G 32 ≤ v) ∧ (0 < rsM (rstM Y c b) (Y (12 + w)) → G (c * 4 + (b + digM (Y (12 + w)))) ≤ v) ∧ (0 < rsM (Y (12 + w)) (rstM Y c b) → G (w * 4 + lenM Y c b) ≤ v + (digM (Y (12 + w)) - lenM Y c b))
theorem vN.ix {Y : Int → Int} {c b : Int} (o : okC Y) (v : vN Y c b) : (0 ≤ c ∧ c < 8) ∧ 1 ≤ b ∧ b < 4 := by
  obtain ⟨⟨v1, v2⟩, v3, v4⟩ := v
  have wc := o.1.2 c v1 v2
  have dc := digM_rg wc.1 wc.2
  have := o.1.1
  omega
theorem rxG.le {Y G G' : Int → Int} {v c b w : Int} (o : okC Y) (h : vN Y c b) (w0 : 0 ≤ w) (w1 : w < Y 53) (r : rxG Y G v c b w) (l : ∀ i, 0 ≤ i → i ≤ 32 → G' i ≤ G i) : rxG Y G' v c b w := by
  obtain ⟨r1, r2, r3⟩ := r
  refine ⟨fun q => ?_, fun q => ?_, fun q => ?_⟩
  · have := r1 q; have := l 32 (by decide) (by decide); omega
  · have x := (rs_in o h w0 w1 q).1.ix o
    have := r2 q; have := l (c * 4 + (b + digM (Y (12 + w)))) (by omega) (by omega); omega
  · have x := (rs_out o h w0 w1 q).1.ix o
    have := r3 q; have := l (w * 4 + lenM Y c b) (by omega) (by omega); omega
theorem rxG.v {Y G : Int → Int} {v v' c b w : Int} (r : rxG Y G v c b w) (l : v ≤ v') : rxG Y G v' c b w := by
  obtain ⟨r1, r2, r3⟩ := r
  exact ⟨fun q => by have := r1 q; omega, fun q => by have := r2 q; omega, fun q => by have := r3 q; omega⟩
theorem com_lw {Y G : Int → Int} {c b v : Int} {m : Nat} (s : SdG Y G) (o : okC Y) (p : PcN Y m c b v) : LwG Y G (comG G (c * 4 + b) v) ∧ comG G (c * 4 + b) v (c * 4 + b) ≤ v := by
  have x := p.vn.ix o
  have v0 := p.v0 o
  have e : cG 32 G (c * 4 + b) = G (c * 4 + b) := by unfold cG; rw [if_pos (by omega)]
  obtain ⟨s1, s2, s3⟩ := id s
  unfold comG
  rw [e]
  by_cases q : G (c * 4 + b) ≤ v
  · rw [if_pos q]; exact ⟨.rf s, q⟩
  · rw [if_neg q]
    have g1 := s1 (c * 4 + b) (by omega) (by omega)
    have e2 : sG 32 G (c * 4 + b) v = fset G (c * 4 + b) v := by unfold sG; rw [if_pos (by omega)]
    rw [e2]
    have at1 : fset (fset G (c * 4 + b) v) 33 1 (c * 4 + b) = v := by rw [fset_ne (by omega), fset_at]
    have at2 : ∀ i, i ≠ c * 4 + b → i ≤ 32 → fset (fset G (c * 4 + b) v) 33 1 i = G i := fun i h1 h2 => by rw [fset_ne (by omega), fset_ne h1]
    refine ⟨⟨⟨fun i i0 i1 => ?_, fun c' b' c0 c1 b0 b1 h => ?_, fun h => ?_⟩, fun i i0 i1 => ?_, .inr (fset_at _ _ _)⟩, by rw [at1]; exact Int.le_refl _⟩
    · by_cases z : i = c * 4 + b
      · rw [z, at1]; omega
      · rw [at2 i z i1]; exact s1 i i0 i1
    · by_cases z : c' * 4 + b' = c * 4 + b
      · have ec : c' = c := by omega
        have eb : b' = b := by omega
        subst ec; subst eb
        rw [at1]; exact ⟨m, p⟩
      · rw [at2 _ z (by omega)] at h ⊢; exact s2 c' b' c0 c1 b0 b1 h
    · rw [at2 32 (by omega) (by decide)] at h ⊢; exact s3 h
    · by_cases z : i = c * 4 + b
      · rw [z, at1]; omega
      · rw [at2 i z i1]; exact Int.le_refl _
theorem put_lw {Y G : Int → Int} {c b w v : Int} {m : Nat} (s : SdG Y G) (o : okC Y) (p : PcN Y m c b v) (w0 : 0 ≤ w) (w1 : w < Y 53) (vf : v < 1000000) : LwG Y G (putM Y G c b w v) ∧ rxG Y (putM Y G c b w v) v c b w := by
  have h := p.vn
  have x := h.ix o
  have v0 := p.v0 o
  have w8 := o.1.1
  have ci := rs_in o h w0 w1
  have co := rs_out o h w0 w1
  unfold putM
  by_cases q1 : Y (12 + w) = rstM Y c b
  · rw [if_pos q1]
    have s32 := s.1 32 (by decide) (by decide)
    have mn : min (G 32) v ≤ G 32 ∧ min (G 32) v ≤ v ∧ (min (G 32) v = G 32 ∨ min (G 32) v = v) := by omega
    refine ⟨⟨⟨fun i i0 i1 => ?_, fun c' b' c0 c1 b0 b1 hh => ?_, fun hh => ?_⟩, fun i i0 i1 => ?_, .inl ⟨fset_ne (by decide), fun i i0 i1 => fset_ne (by omega)⟩⟩, fun _ => ?_, fun q => absurd q1 (ci q).2.2.2, fun q => absurd q1 (co q).2.2.2.1⟩
    · by_cases z : i = 32
      · rw [z, fset_at]; omega
      · rw [fset_ne z]; exact s.1 i i0 i1
    · rw [fset_ne (by omega)] at hh ⊢; exact s.2.1 c' b' c0 c1 b0 b1 hh
    · rw [fset_at] at hh ⊢
      rcases mn.2.2 with z | z
      · rw [z] at hh ⊢; exact s.2.2 hh
      · rw [z]; exact ⟨m, c, b, w, p, w0, w1, q1⟩
    · by_cases z : i = 32
      · rw [z, fset_at]; omega
      · rw [fset_ne z]; exact Int.le_refl _
    · rw [fset_at]; omega
  · rw [if_neg q1]
    by_cases q2 : digM (Y (12 + w)) - lenM Y c b < 0 ∧ stM (rstM Y c b) (Y (12 + w)) ≠ 0
    · rw [if_pos q2]
      have r := st_in o h w0 w1 q2.1 q2.2
      have pn : PcN Y (m + 1) c (b + digM (Y (12 + w))) v := ⟨(ci r).1, c, b, v, w, p, ⟨w0, w1⟩, .inl ⟨r, rfl, rfl, rfl⟩⟩
      have cl := com_lw s o pn
      exact ⟨cl.1, fun q => absurd q q1, fun _ => cl.2, fun q => by have := (co q).2.2.1.1; omega⟩
    · rw [if_neg q2]
      by_cases q3 : 0 < digM (Y (12 + w)) - lenM Y c b ∧ stM (Y (12 + w)) (rstM Y c b) ≠ 0
      · rw [if_pos q3]
        have r := st_out o h w0 w1 q3.1 q3.2
        have pn : PcN Y (m + 1) w (lenM Y c b) (v + (digM (Y (12 + w)) - lenM Y c b)) := ⟨(co r).1, c, b, v, w, p, ⟨w0, w1⟩, .inr ⟨r, rfl, rfl, rfl⟩⟩
        have cl := com_lw s o pn
        exact ⟨cl.1, fun q => absurd q q1, fun q => absurd (ci q).2.2.1 q2, fun _ => cl.2⟩
      · rw [if_neg q3]
        exact ⟨.rf s, fun q => absurd q q1, fun q => absurd (ci q).2.2.1 q2, fun q => absurd (co q).2.2.1 q3⟩
theorem in_lw {Y : Int → Int} {c b v : Int} {m : Nat} (o : okC Y) (p : PcN Y m c b v) (vf : v < 1000000) : ∀ (k : Nat) (w : Int) (G : Int → Int), 0 ≤ w → w + k ≤ Y 53 → SdG Y G → LwG Y G (inM Y c b v k w G) ∧ ∀ w', w ≤ w' → w' < w + k → rxG Y (inM Y c b v k w G) v c b w' := by
  intro k
  induction k with
  | zero => intro w G w0 w1 s; exact ⟨.rf s, fun w' a b => by omega⟩
  | succ k ih =>
    intro w G w0 w1 s
    unfold inM
    have a := put_lw s o p w0 (by omega) vf
    have b := ih (w + 1) _ (by omega) (by omega) a.1.1
    refine ⟨a.1.tr b.1, fun w' x y => ?_⟩
    by_cases z : w' = w
    · subst z; exact a.2.le o p.vn (by omega) (by omega) b.1.2.1
    · exact b.2 w' (by omega) (by omega)
/-- all that the nodes of G say is told in G' -/
def alG (Y G G' : Int → Int) (c b : Int) : Prop := G (c * 4 + b) < 1000000 → ∀ w, 0 ≤ w → w < Y 53 → rxG Y G' (G (c * 4 + b)) c b w
theorem alG.le {Y G G0 G1 G2 : Int → Int} {c b : Int} (o : okC Y) (s : SdG Y G0) (c0 : 0 ≤ c) (c1 : c < 8) (b0 : 0 ≤ b) (b1 : b < 4) (h : alG Y G0 G1 c b) (h0 : ∀ i, 0 ≤ i → i ≤ 32 → G0 i ≤ G i) (h1 : ∀ i, 0 ≤ i → i ≤ 32 → G2 i ≤ G1 i) : alG Y G G2 c b := by
  intro q w w0 w1
  have z := h0 (c * 4 + b) (by omega) (by omega)
  obtain ⟨m, p⟩ := s.2.1 c b c0 c1 b0 b1 (by omega)
  exact ((h (by omega) w w0 w1).le o p.vn w0 w1 h1).v z
theorem beh_lw {Y : Int → Int} {c : Int} (o : okC Y) (c0 : 0 ≤ c) (c1 : c < 8) : ∀ (k : Nat) (b : Int) (G : Int → Int), 1 ≤ b → b + k = 4 → SdG Y G → LwG Y G (behM Y (Y 53).toNat c k b G) ∧ ∀ b', b ≤ b' → b' < 4 → alG Y G (behM Y (Y 53).toNat c k b G) c b' := by
  intro k
  induction k with
  | zero => intro b G b0 b1 s; exact ⟨.rf s, fun b' x y => by omega⟩
  | succ k ih =>
    intro b G b0 b1 s
    unfold behM
    have w8 := o.1.1
    have e : cG 32 G (c * 4 + b) = G (c * 4 + b) := by unfold cG; rw [if_pos (by omega)]
    rw [e]
    have a : LwG Y G (if 1000000 ≤ G (c * 4 + b) then G else inM Y c b (G (c * 4 + b)) (Y 53).toNat 0 G) ∧ alG Y G (if 1000000 ≤ G (c * 4 + b) then G else inM Y c b (G (c * 4 + b)) (Y 53).toNat 0 G) c b := by
      by_cases q : 1000000 ≤ G (c * 4 + b)
      · rw [if_pos q]; exact ⟨.rf s, fun z => by omega⟩
      · rw [if_neg q]
        obtain ⟨m, p⟩ := s.2.1 c b c0 c1 (by omega) (by omega) (by omega)
        have i := in_lw o p (by omega) (Y 53).toNat 0 G (by decide) (by omega) s
        exact ⟨i.1, fun _ w w0 w1 => i.2 w w0 (by omega)⟩
    have b2 := ih (b + 1) _ (by omega) (by omega) a.1.1
    refine ⟨a.1.tr b2.1, fun b' x y => ?_⟩
    by_cases z : b' = b
    · subst z; exact a.2.le o s c0 c1 (by omega) (by omega) (fun _ _ _ => Int.le_refl _) b2.1.2.1
    · exact (b2.2 b' (by omega) (by omega)).le o a.1.1 c0 c1 (by omega) (by omega) a.1.2.1 (fun _ _ _ => Int.le_refl _)
theorem ov_lw {Y : Int → Int} (o : okC Y) : ∀ (k : Nat) (c : Int) (G : Int → Int), 0 ≤ c → c + k = Y 53 → SdG Y G → LwG Y G (ovM Y (Y 53).toNat k c G) ∧ ∀ c' b', c ≤ c' → c' < Y 53 → 1 ≤ b' → b' < 4 → alG Y G (ovM Y (Y 53).toNat k c G) c' b' := by
  intro k
  induction k with
  | zero => intro c G c0 c1 s; exact ⟨.rf s, fun c' b' x y => by omega⟩
  | succ k ih =>
    intro c G c0 c1 s
    unfold ovM
    have w8 := o.1.1
    have a := beh_lw o c0 (by omega) 3 1 G (by decide) (by decide) s
    have b2 := ih (c + 1) _ (by omega) (by omega) a.1.1
    refine ⟨a.1.tr b2.1, fun c' b' x y b0 b1 => ?_⟩
    by_cases z : c' = c
    · subst z; exact (a.2 b' b0 b1).le o s c0 (by omega) (by omega) (by omega) (fun _ _ _ => Int.le_refl _) b2.1.2.1
    · exact (b2.2 c' b' (by omega) y b0 b1).le o a.1.1 (by omega) (by omega) (by omega) (by omega) a.1.2.1 (fun _ _ _ => Int.le_refl _)
/-- the first rests are told -/
def baG (Y G : Int → Int) (a z : Int) : Prop := ∀ l e, 0 ≤ l → l < Y 53 → 0 ≤ e → e < Y 53 → (l < a ∨ (l = a ∧ e < z)) → 0 < rsM (Y (12 + l)) (Y (12 + e)) → G (l * 4 + digM (Y (12 + e))) ≤ digM (Y (12 + l))
theorem baG.le {Y G G' : Int → Int} {a z : Int} (o : okC Y) (h : baG Y G a z) (l : ∀ i, 0 ≤ i → i ≤ 32 → G' i ≤ G i) : baG Y G' a z := fun k e k0 k1 e0 e1 q p => by
  have x := (rs_base o k0 k1 e0 e1 p).1.ix o
  have := h k e k0 k1 e0 e1 q p
  have := l (k * 4 + digM (Y (12 + e))) (by omega) (by omega)
  omega
theorem hd_lw {Y : Int → Int} {l : Int} (o : okC Y) (l0 : 0 ≤ l) (l1 : l < Y 53) : ∀ (k : Nat) (e : Int) (G : Int → Int), 0 ≤ e → e + k = Y 53 → SdG Y G → baG Y G l e → LwG Y G (hdM Y l k e G) ∧ baG Y (hdM Y l k e G) l (Y 53) := by
  intro k
  induction k with
  | zero => intro e G e0 e1 s b; rw [show Y 53 = e by omega]; exact ⟨.rf s, b⟩
  | succ k ih =>
    intro e G e0 e1 s b
    unfold hdM
    have a : LwG Y G (if l ≠ e ∧ stM (Y (12 + l)) (Y (12 + e)) ≠ 0 then comG G (l * 4 + digM (Y (12 + e))) (digM (Y (12 + l))) else G) ∧ baG Y (if l ≠ e ∧ stM (Y (12 + l)) (Y (12 + e)) ≠ 0 then comG G (l * 4 + digM (Y (12 + e))) (digM (Y (12 + l))) else G) l (e + 1) := by
      by_cases q : l ≠ e ∧ stM (Y (12 + l)) (Y (12 + e)) ≠ 0
      · rw [if_pos q]
        have r := st_base o l0 l1 e0 (by omega) q.1 q.2
        have p : PcN Y 0 l (digM (Y (12 + e))) (digM (Y (12 + l))) := ⟨(rs_base o l0 l1 e0 (by omega) r).1, e, ⟨e0, by omega⟩, r, rfl, rfl⟩
        have c := com_lw s o p
        refine ⟨c.1, fun k' e' k0 k1 e0' e1' h pp => ?_⟩
        by_cases z : k' = l ∧ e' = e
        · obtain ⟨z1, z2⟩ := z; subst z1; subst z2; exact c.2
        · exact (b.le o c.1.2.1) k' e' k0 k1 e0' e1' (by omega) pp
      · rw [if_neg q]
        refine ⟨.rf s, fun k' e' k0 k1 e0' e1' h pp => ?_⟩
        by_cases z : k' = l ∧ e' = e
        · obtain ⟨z1, z2⟩ := z; subst z1; subst z2; exact absurd (rs_base o k0 k1 e0' e1' pp).2.2 q
        · exact b k' e' k0 k1 e0' e1' (by omega) pp
    have i := ih (e + 1) _ (by omega) (by omega) a.1.1 a.2
    exact ⟨a.1.tr i.1, i.2⟩
theorem lg_lw {Y : Int → Int} (o : okC Y) : ∀ (k : Nat) (l : Int) (G : Int → Int), 0 ≤ l → l + k = Y 53 → SdG Y G → baG Y G l 0 → LwG Y G (lgM Y (Y 53).toNat k l G) ∧ baG Y (lgM Y (Y 53).toNat k l G) (Y 53) 0 := by
  intro k
  induction k with
  | zero => intro l G l0 l1 s b; refine ⟨.rf s, ?_⟩; rw [show l = Y 53 by omega] at b; exact b
  | succ k ih =>
    intro l G l0 l1 s b
    unfold lgM
    have w8 := o.1.1
    have a := hd_lw o l0 (by omega) (Y 53).toNat 0 G (by decide) (by omega) s b
    have i := ih (l + 1) _ (by omega) (by omega) a.1.1 (fun k e k0 k1 e0 e1 q p => a.2 k e k0 k1 e0 e1 (by omega) p)
    exact ⟨a.1.tr i.1, i.2⟩
/-- what a pass leaves: told of all -/
def ClG (Y G : Int → Int) : Prop := ∀ c b, 0 ≤ c → c < Y 53 → 1 ≤ b → b < 4 → alG Y G G c b
def fiG (Y G : Int → Int) : Prop := ∀ m c b w v, PcN Y m c b v → 0 ≤ w → w < Y 53 → Y (12 + w) = rstM Y c b → G 32 ≤ v
/-- nothing nearer is to be found at cell i -/
def seG (Y G : Int → Int) (i : Nat) : Prop := ∀ (m : Nat) (c b v : Int), PcN Y m c b v → c * 4 + b = i → G i ≤ v
theorem ClG.se {Y G : Int → Int} (o : okC Y) (s : SdG Y G) (b : baG Y G (Y 53) 0) (cl : ClG Y G) : ∀ (m : Nat) (c b v : Int), PcN Y m c b v → G (c * 4 + b) ≤ v := by
  intro m
  induction m with
  | zero =>
    intro c b2 v ⟨h1, e, h2, h3, h4, h5⟩
    subst h4; subst h5
    exact b c e h1.1.1 h1.1.2 h2.1 h2.2 (.inl h1.1.2) h3
  | succ m ih =>
    intro c b2 v h
    have x := h.vn.ix o
    obtain ⟨h1, c0, b0, v0, w, h2, h3, h4⟩ := h
    have i := ih c0 b0 v0 h2
    have x0 := h2.vn.ix o
    have t := s.1 (c * 4 + b2) (by omega) (by omega)
    by_cases q : G (c0 * 4 + b0) < 1000000
    · have a := cl c0 b0 (by omega) h2.vn.1.2 (by omega) (by omega) q w h3.1 h3.2
      rcases h4 with ⟨a1, a2, a3, a4⟩ | ⟨a1, a2, a3, a4⟩
      · subst a2; subst a3; have := a.2.1 a1; omega
      · subst a2; subst a3; have := a.2.2 a1; omega
    · rcases h4 with ⟨a1, a2, a3, a4⟩ | ⟨a1, a2, a3, a4⟩
      · omega
      · have := (rs_out o h2.vn h3.1 h3.2 a1).2.2.1.1; omega
theorem all_fi {Y G G' : Int → Int} (o : okC Y) (s : SdG Y G) (s' : SdG Y G') (se : ∀ (m : Nat) (c b v : Int), PcN Y m c b v → G (c * 4 + b) ≤ v) (al : ∀ c b, 0 ≤ c → c < Y 53 → 1 ≤ b → b < 4 → alG Y G G' c b) : fiG Y G' := by
  intro m c b w v p w0 w1 e
  have x := p.vn.ix o
  have i := se m c b v p
  by_cases q : G (c * 4 + b) < 1000000
  · have := (al c b (by omega) p.vn.1.2 (by omega) (by omega) q w w0 w1).1 e; omega
  · have := s'.1 32 (by decide) (by decide); omega
noncomputable def cntG (Y G : Int → Int) : Nat → Nat
  | 0 => 0
  | k + 1 => cntG Y G k + (@ite Nat (seG Y G k) (Classical.propDecidable _) 0 1)
theorem cnt_le {Y G G' : Int → Int} (l : ∀ i, 0 ≤ i → i ≤ 32 → G' i ≤ G i) : ∀ k, k ≤ 32 → cntG Y G' k ≤ cntG Y G k := by
  intro k
  induction k with
  | zero => intro _; exact Nat.le_refl _
  | succ k ih =>
    intro h
    have i := ih (by omega)
    unfold cntG
    by_cases q : seG Y G k
    · have q2 : seG Y G' k := fun m c b v p e => by have := q m c b v p e; have := l k (by omega) (by omega); omega
      rw [if_pos q, if_pos q2]; omega
    · rw [if_neg q]; split <;> omega
theorem cnt_lt {Y G G' : Int → Int} (l : ∀ i, 0 ≤ i → i ≤ 32 → G' i ≤ G i) {j : Nat} (h1 : ¬ seG Y G j) (h2 : seG Y G' j) : ∀ k, k ≤ 32 → j < k → cntG Y G' k < cntG Y G k := by
  intro k
  induction k with
  | zero => intro _ h; omega
  | succ k ih =>
    intro h hj
    unfold cntG
    by_cases z : j = k
    · subst z
      have := cnt_le l j (by omega) (Y := Y)
      rw [if_pos h2, if_neg h1]; omega
    · have i := ih (by omega) (by omega)
      by_cases q : seG Y G k
      · have q2 : seG Y G' k := fun m c b v p e => by have := q m c b v p e; have := l k (by omega) (by omega); omega
        rw [if_pos q, if_pos q2]; omega
      · rw [if_neg q]; split <;> omega
theorem cnt_k {Y G : Int → Int} : ∀ k, cntG Y G k ≤ k := by
  intro k
  induction k with
  | zero => exact Nat.le_refl _
  | succ k ih => unfold cntG; split <;> omega
theorem cnt_z {Y G : Int → Int} (o : okC Y) : ∀ k, 1 ≤ k → cntG Y G k < k := by
  intro k
  induction k with
  | zero => intro h; omega
  | succ k ih =>
    intro _
    unfold cntG
    by_cases z : k = 0
    · subst z
      have q : seG Y G ((0 : Nat)) := fun m c b v p e => by have := p.vn.ix o; omega
      rw [if_pos q]
      have := cnt_k (Y := Y) (G := G) 0
      omega
    · have := ih (by omega); split <;> omega
theorem cnt_se {Y G : Int → Int} (o : okC Y) : ∀ k, cntG Y G k = 0 → ∀ j, j < k → seG Y G j := by
  intro k
  induction k with
  | zero => intro _ j h; omega
  | succ k ih =>
    intro h j hj
    unfold cntG at h
    by_cases q : seG Y G k
    · by_cases z : j = k
      · subst z; exact q
      · exact ih (by omega) j (by omega)
    · rw [if_neg q] at h; omega
/-- the nearest that is still to be told, with the fewest hops -/
theorem least_at {Y G : Int → Int} (o : okC Y) : ∀ (N K : Nat), (∃ m c b v, PcN Y m c b v ∧ v < G (c * 4 + b) ∧ v.toNat = N ∧ m = K) → ∃ m c b v, PcN Y m c b v ∧ v < G (c * 4 + b) ∧ ∀ m' c' b' v', PcN Y m' c' b' v' → v' < G (c' * 4 + b') → v < v' ∨ (v = v' ∧ m ≤ m') := by
  intro N
  induction N using Nat.strongRecOn with
  | ind N ihN =>
    intro K
    induction K using Nat.strongRecOn with
    | ind K ihK =>
      intro ⟨m, c, b, v, p, h, hn, hm⟩
      by_cases q : ∃ m' c' b' v', PcN Y m' c' b' v' ∧ v' < G (c' * 4 + b') ∧ (v' < v ∨ (v' = v ∧ m' < m))
      · obtain ⟨m', c', b', v', p', h', q'⟩ := q
        have z := p'.v0 o
        rcases q' with q' | q'
        · exact ihN v'.toNat (by omega) m' ⟨m', c', b', v', p', h', rfl, rfl⟩
        · exact ihK m' (by omega) ⟨m', c', b', v', p', h', by omega, rfl⟩
      · refine ⟨m, c, b, v, p, h, fun m' c' b' v' p' h' => ?_⟩
        have : ¬ (v' < v ∨ (v' = v ∧ m' < m)) := fun z => q ⟨m', c', b', v', p', h', z⟩
        omega
theorem pass_lt {Y G G' : Int → Int} (o : okC Y) (s : SdG Y G) (b : baG Y G (Y 53) 0) (s' : SdG Y G') (l : ∀ i, 0 ≤ i → i ≤ 32 → G' i ≤ G i) (al : ∀ c b, 0 ≤ c → c < Y 53 → 1 ≤ b → b < 4 → alG Y G G' c b) (h : cntG Y G 32 ≠ 0) : cntG Y G' 32 < cntG Y G 32 := by
  have ex : ∃ m c b v, PcN Y m c b v ∧ v < G (c * 4 + b) := by
    apply Classical.byContradiction
    intro hn
    apply h
    have : ∀ k, k ≤ 32 → cntG Y G k = 0 := by
      intro k
      induction k with
      | zero => intro _; rfl
      | succ k ih =>
        intro hk
        unfold cntG
        have q : seG Y G k := fun m c b v p e => by
          apply Classical.byContradiction
          intro z
          rw [← e] at z
          exact hn ⟨m, c, b, v, p, by omega⟩
        rw [if_pos q, ih (by omega)]
    exact this 32 (Nat.le_refl _)
  obtain ⟨m, c, b2, v, p, hv⟩ := ex
  obtain ⟨m, c, b2, v, p, hv, mn⟩ := least_at o v.toNat m ⟨m, c, b2, v, p, hv, rfl, rfl⟩
  have x := p.vn.ix o
  have ex2 : ((c * 4 + b2).toNat : Int) = c * 4 + b2 := by omega
  have h1 : ¬ seG Y G (c * 4 + b2).toNat := fun z => by
    have := z m c b2 v p ex2.symm
    rw [ex2] at this; omega
  have t : G' (c * 4 + b2) ≤ v := by
    have t1 := s'.1 (c * 4 + b2) (by omega) (by omega)
    cases m with
    | zero =>
      obtain ⟨h1, e, h2, h3, h4, h5⟩ := p
      subst h4; subst h5
      have := b c e h1.1.1 h1.1.2 h2.1 h2.2 (.inl h1.1.2) h3
      omega
    | succ m =>
      obtain ⟨h1, c0, b0, v0, w, h2, h3, h4⟩ := p
      have x0 := h2.vn.ix o
      have g0 : G (c0 * 4 + b0) ≤ v0 := by
        apply Classical.byContradiction
        intro z
        have k := mn m c0 b0 v0 h2 (by omega)
        rcases h4 with ⟨a1, a2, a3, a4⟩ | ⟨a1, a2, a3, a4⟩
        · omega
        · have := (rs_out o h2.vn h3.1 h3.2 a1).2.2.1.1; omega
      by_cases q : G (c0 * 4 + b0) < 1000000
      · have a := al c0 b0 (by omega) h2.vn.1.2 (by omega) (by omega) q w h3.1 h3.2
        rcases h4 with ⟨a1, a2, a3, a4⟩ | ⟨a1, a2, a3, a4⟩
        · subst a2; subst a3; have := a.2.1 a1; omega
        · subst a2; subst a3; have := a.2.2 a1; omega
      · rcases h4 with ⟨a1, a2, a3, a4⟩ | ⟨a1, a2, a3, a4⟩
        · omega
        · have := (rs_out o h2.vn h3.1 h3.2 a1).2.2.1.1; omega
  have h2 : seG Y G' (c * 4 + b2).toNat := fun m' c' b' v' p' e' => by
    rw [ex2] at e' ⊢
    apply Classical.byContradiction
    intro z
    have x' := p'.vn.ix o
    have ec : c' = c := by omega
    have eb : b' = b2 := by omega
    subst ec; subst eb
    have := l (c' * 4 + b') (by omega) (by omega)
    have := mn m' c' b' v' p' (by omega)
    omega
  exact cnt_lt l h1 h2 32 (Nat.le_refl _) (by omega)
theorem LwG.of33 {Y G G' : Int → Int} {z : Int} (s : SdG Y G) (h : LwG Y (fset G 33 z) G') : SdG Y G' ∧ (∀ i, 0 ≤ i → i ≤ 32 → G' i ≤ G i) ∧ ((G' 33 = z ∧ ∀ i, 0 ≤ i → i < 32 → G' i = G i) ∨ G' 33 = 1) := by
  obtain ⟨h1, h2, h3⟩ := h
  refine ⟨h1, fun i i0 i1 => ?_, ?_⟩
  · have := h2 i i0 i1; rw [fset_ne (by omega)] at this; exact this
  · rcases h3 with ⟨h3, h4⟩ | h3
    · rw [fset_at] at h3
      refine .inl ⟨h3, fun i i0 i1 => ?_⟩
      have := h4 i i0 i1; rw [fset_ne (by omega)] at this; exact this
    · exact .inr h3
theorem SdG.f33 {Y G : Int → Int} {z : Int} (s : SdG Y G) : SdG Y (fset G 33 z) := by
  obtain ⟨s1, s2, s3⟩ := s
  refine ⟨fun i i0 i1 => ?_, fun c b c0 c1 b0 b1 h => ?_, fun h => ?_⟩
  · rw [fset_ne (by omega)]; exact s1 i i0 i1
  · rw [fset_ne (by omega)] at h ⊢; exact s2 c b c0 c1 b0 b1 h
  · rw [fset_ne (by decide)] at h ⊢; exact s3 h
theorem ps_one {Y G : Int → Int} (o : okC Y) (s : SdG Y G) : (SdG Y (ovM Y (Y 53).toNat (Y 53).toNat 0 (fset G 33 0)) ∧ (∀ i, 0 ≤ i → i ≤ 32 → ovM Y (Y 53).toNat (Y 53).toNat 0 (fset G 33 0) i ≤ G i) ∧ ((ovM Y (Y 53).toNat (Y 53).toNat 0 (fset G 33 0) 33 = 0 ∧ ∀ i, 0 ≤ i → i < 32 → ovM Y (Y 53).toNat (Y 53).toNat 0 (fset G 33 0) i = G i) ∨ ovM Y (Y 53).toNat (Y 53).toNat 0 (fset G 33 0) 33 = 1)) ∧ ∀ c b, 0 ≤ c → c < Y 53 → 1 ≤ b → b < 4 → alG Y G (ovM Y (Y 53).toNat (Y 53).toNat 0 (fset G 33 0)) c b := by
  have w8 := o.1.1
  have a := ov_lw o (Y 53).toNat 0 (fset G 33 0) (by decide) (by omega) s.f33
  refine ⟨LwG.of33 s a.1, fun c b c0 c1 b0 b1 => ?_⟩
  have q := a.2 c b c0 c1 b0 b1
  unfold alG at q
  rw [fset_ne (by omega)] at q
  exact q
theorem ps_keep {Y : Int → Int} (o : okC Y) : ∀ (k : Nat) (G : Int → Int), SdG Y G → fiG Y G → SdG Y (psM Y (Y 53).toNat k G) ∧ fiG Y (psM Y (Y 53).toNat k G) := by
  intro k
  induction k with
  | zero => intro G s f; exact ⟨s, f⟩
  | succ k ih =>
    intro G s f
    unfold psM
    split
    · exact ⟨s, f⟩
    · have a := ps_one o s
      exact ih _ a.1.1 (fun m c b w v p w0 w1 e => Int.le_trans (a.1.2.1 32 (by decide) (by decide)) (f m c b w v p w0 w1 e))
theorem ps_fin {Y : Int → Int} (o : okC Y) : ∀ (k : Nat) (G : Int → Int), SdG Y G → baG Y G (Y 53) 0 → ((G 33 = 0 ∧ fiG Y G) ∨ G 33 = 1) → cntG Y G 32 < k → SdG Y (psM Y (Y 53).toNat k G) ∧ fiG Y (psM Y (Y 53).toNat k G) := by
  intro k
  induction k with
  | zero => intro G s b h c; omega
  | succ k ih =>
    intro G s b h hc
    unfold psM
    have w8 := o.1.1
    rcases h with ⟨h1, h2⟩ | h1
    · rw [if_pos h1]; exact ⟨s, h2⟩
    · rw [if_neg (by omega)]
      have a := ps_one o s
      generalize ovM Y (Y 53).toNat (Y 53).toNat 0 (fset G 33 0) = G1 at a ⊢
      obtain ⟨⟨a1, a2, a3⟩, a4⟩ := a
      by_cases z : cntG Y G 32 = 0
      · refine ps_keep o k G1 a1 (all_fi o s a1 (fun m c b v p => ?_) a4)
        have x := p.vn.ix o
        have q := cnt_se o 32 z (c * 4 + b).toNat (by omega) m c b v p (by omega)
        rw [show ((c * 4 + b).toNat : Int) = c * 4 + b by omega] at q
        exact q
      · have lt := pass_lt o s b a1 a2 a4 z
        refine ih G1 a1 (b.le o a2) ?_ (by omega)
        rcases a3 with ⟨a5, a6⟩ | a5
        · refine .inl ⟨a5, all_fi o a1 a1 (ClG.se o a1 (b.le o a2) ?_) ?_⟩
          all_goals
            intro c b' c0 c1 b0 b1
            have q := a4 c b' c0 c1 b0 b1
            unfold alG at q ⊢
            rw [a6 (c * 4 + b') (by omega) (by omega)]
            exact q
        · exact .inr a5
theorem su_clr {Y : Int → Int} (o : okC Y) : clrP Y (suM Y 32) := by
  have w8 := o.1.1
  have s0 : SdG Y g0M := by
    refine ⟨fun i i0 i1 => ?_, fun c b c0 c1 b0 b1 h => ?_, fun h => ?_⟩
    · unfold g0M; rw [if_neg (by omega)]; exact ⟨by decide, by decide⟩
    · unfold g0M at h; rw [if_neg (by omega)] at h; omega
    · unfold g0M at h; rw [if_neg (by omega)] at h; omega
  have a := lg_lw o (Y 53).toNat 0 g0M (by decide) (by omega) s0 (fun l e l0 l1 e0 e1 q p => by omega)
  have e33 : lgM Y (Y 53).toNat (Y 53).toNat 0 g0M 33 = 1 := by
    rcases a.1.2.2 with ⟨q, _⟩ | q
    · rw [q]; rfl
    · exact q
  have f := ps_fin o 32 _ a.1.1 a.2 (.inr e33) (cnt_z o 32 (by decide))
  unfold suM
  generalize psM Y (Y 53).toNat 32 (lgM Y (Y 53).toNat (Y 53).toNat 0 g0M) = G at f ⊢
  obtain ⟨s, fi⟩ := f
  refine ⟨?_, fun m k v' k0 k1 p => ?_⟩
  · by_cases q : G 32 < 1000000
    · obtain ⟨m, c, b, w, p, w0, w1, e⟩ := s.2.2 q
      have pa := p.pa o
      rw [← e] at pa
      exact .inr ⟨q, m, w, w0, w1, pa⟩
    · have := s.1 32 (by decide) (by decide); exact .inl (by omega)
  · obtain ⟨c, b, p', e⟩ := PaN.pc o m _ v' p
    exact fi m c b k v' p' k0 k1 e.symm
theorem clr_eq {Y : Int → Int} {v v' : Int} (a : clrP Y v) (b : clrP Y v') : v = v' := by
  obtain ⟨a1, a2⟩ := a
  obtain ⟨b1, b2⟩ := b
  rcases a1 with a1 | ⟨a1, m, k, k0, k1, p⟩
  · rcases b1 with b1 | ⟨b1, m', k', k0', k1', p'⟩
    · rw [a1, b1]
    · have := a2 m' k' v' k0' k1' p'; omega
  · have h1 := b2 m k v k0 k1 p
    rcases b1 with b1 | ⟨b1, m', k', k0', k1', p'⟩
    · omega
    · have := a2 m' k' v' k0' k1' p'; omega
