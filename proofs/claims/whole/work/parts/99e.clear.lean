/-! Clear. G: 0..31 the least, 32 the shortest, 33 nearer. -/
def cG (m : Nat) (G : Int → Int) (i : Int) : Int := if 0 ≤ i ∧ i < m then G i else 0
def sG (m : Nat) (G : Int → Int) (i v : Int) : Int → Int := if 0 ≤ i ∧ i < m then fset G i v else G
def comG (G : Int → Int) (i v : Int) : Int → Int := if cG 32 G i ≤ v then G else fset (sG 32 G i v) 33 1
def IsRg (h : aH) (G : Int → Int) : Prop := h 292 = cO 3 [vR (some 293), vR (some 294), vR (some 295), vR (some 296), vI (G 32), vI (G 33)] ∧ h 293 = cI (Ls 32 G)
theorem IsRg.fr {h h1 : aH} {G : Int → Int} {lo k : Nat} (s : IsRg h G) (f : Fr h h1 lo k) (hd : 294 ≤ lo ∨ lo + k ≤ 292) : IsRg h1 G := ⟨by rw [f _ (by omega)]; exact s.1, by rw [f _ (by omega)]; exact s.2⟩
section CLEAR
variable {d bc bs n : Nat} {h : aH} {Q : aQ} {G Y : Int → Int} {a : Nat}
theorem R_X12_cellG {a m : Nat} {i : Int} {f : Int → Int} (hh : h a = cI (Ls m f)) (ha : a ≠ 0) (hl : m < 2147483648) (k : Q (some (vI (cG m f i))) h n) : Rn d bc bs mX12_cell 0 [some (vR (some a)), some (vI i)] [] h n Q := by
  have l1 := Ls_len m f
  unfold cG at k
  refine BX12_cell_0  ?_ ?_
  · intro hc1
    refine BX12_cell_16  ?_
    first | (rw [if_pos (by omega)] at k; exact k) | (rw [if_neg (by omega)] at k; exact k)
  · intro hc2
    refine BX12_cell_4 (by first | assumption | exact up_at _ _ _ | (rw [up_ne (by omega)]; first | assumption | exact up_at _ _ _ | (rw [up_ne (by omega)]; assumption))) (by first | omega | assumption | (simp only [Ls_len]; omega) | exact Ls_get (by omega) (by omega) | rfl | decide) (by first | omega | assumption | (simp only [Ls_len]; omega) | exact Ls_get (by omega) (by omega) | rfl | decide) ?_ ?_
    · intro hc3
      refine BX12_cell_16  ?_
      first | (rw [if_pos (by omega)] at k; exact k) | (rw [if_neg (by omega)] at k; exact k)
    · intro hc4
      refine BX12_cell_10 (by first | assumption | exact up_at _ _ _ | (rw [up_ne (by omega)]; first | assumption | exact up_at _ _ _ | (rw [up_ne (by omega)]; assumption))) (by first | omega | assumption | (simp only [Ls_len]; omega) | exact Ls_get (by omega) (by omega) | rfl | decide) (by first | exact Ls_get (by omega) (by omega) | assumption) ?_
      first | (rw [if_pos (by omega)] at k; exact k) | (rw [if_neg (by omega)] at k; exact k)
theorem R_X12_setCellG {a m : Nat} {i v : Int} {f : Int → Int} (hh : h a = cI (Ls m f)) (ha : a ≠ 0) (hl : m < 2147483648) (k : ∀ h1, Fr h h1 a 1 → h1 a = cI (Ls m (sG m f i v)) → Q none h1 n) : Rn d bc bs mX12_setCell 0 [some (vR (some a)), some (vI i), some (vI v)] [] h n Q := by
  have l1 := Ls_len m f
  unfold sG at k
  refine BX12_setCell_0  ?_ ?_
  · intro hc1
    refine BX12_setCell_14  ?_
    first
    | (rw [if_pos (by omega)] at k; refine k _ ((Fr.rf h a 1).put (by omega) (by omega)) ?_; exact up_at _ _ _)
    | (rw [if_neg (by omega)] at k; exact k _ (Fr.rf h a 1) hh)
  · intro hc2
    refine BX12_setCell_4 (by first | assumption | exact up_at _ _ _ | (rw [up_ne (by omega)]; first | assumption | exact up_at _ _ _ | (rw [up_ne (by omega)]; assumption))) (by first | omega | assumption | (simp only [Ls_len]; omega) | exact Ls_get (by omega) (by omega) | rfl | decide) (by first | omega | assumption | (simp only [Ls_len]; omega) | exact Ls_get (by omega) (by omega) | rfl | decide) ?_ ?_
    · intro hc3
      refine BX12_setCell_14  ?_
      first
      | (rw [if_pos (by omega)] at k; refine k _ ((Fr.rf h a 1).put (by omega) (by omega)) ?_; exact up_at _ _ _)
      | (rw [if_neg (by omega)] at k; exact k _ (Fr.rf h a 1) hh)
    · intro hc4
      refine BX12_setCell_10 (by first | assumption | exact up_at _ _ _ | (rw [up_ne (by omega)]; first | assumption | exact up_at _ _ _ | (rw [up_ne (by omega)]; assumption))) (by first | omega | assumption | (simp only [Ls_len]; omega) | exact Ls_get (by omega) (by omega) | rfl | decide) (by first | omega | assumption | (simp only [Ls_len]; omega) | exact Ls_get (by omega) (by omega) | rfl | decide) (by first | omega | assumption | (simp only [Ls_len]; omega) | exact Ls_get (by omega) (by omega) | rfl | decide) ?_
      try rw [Ls_set (by omega)]
      refine BX12_setCell_14  ?_
      first
      | (rw [if_pos (by omega)] at k; refine k _ ((Fr.rf h a 1).put (by omega) (by omega)) ?_; exact up_at _ _ _)
      | (rw [if_neg (by omega)] at k; exact k _ (Fr.rf h a 1) hh)
theorem R_X3_come {x y v : Int} {l4 : Option aV} (g : IsRg h G) (x0 : -1000 ≤ x) (x1 : x ≤ 1000) (y0 : -1000 ≤ y) (y1 : y ≤ 1000) (k : ∀ h1, Fr h h1 292 2 → IsRg h1 (comG G (x * 4 + y) v) → Q none h1 n) : Rn (d + 1) bc bs mX3_come 0 [some (vR (some 292)), some (vI x), some (vI y), some (vI v), l4] [] h n Q := by
  unfold comG at k
  have g9 := g
  obtain ⟨g1, g2⟩ := g
  refine BX3_come_0 (by first | omega | assumption | (simp only [Ls_len]; omega) | exact Ls_get (by omega) (by omega) | rfl | decide) (by first | omega | assumption | (simp only [Ls_len]; omega) | exact Ls_get (by omega) (by omega) | rfl | decide) (by first | assumption | exact up_at _ _ _ | (rw [up_ne (by omega)]; first | assumption | exact up_at _ _ _ | (rw [up_ne (by omega)]; assumption))) (by rfl) ?_
  refine R_X12_cellG (by first | omega | assumption | (simp only [Ls_len]; omega) | exact Ls_get (by omega) (by omega) | rfl | decide) (by first | omega | assumption | (simp only [Ls_len]; omega) | exact Ls_get (by omega) (by omega) | rfl | decide) (by first | omega | assumption | (simp only [Ls_len]; omega) | exact Ls_get (by omega) (by omega) | rfl | decide) ?_
  refine BX3_come_16  ?_ ?_
  · intro hc1
    refine BX3_come_21 (by first | assumption | exact up_at _ _ _ | (rw [up_ne (by omega)]; first | assumption | exact up_at _ _ _ | (rw [up_ne (by omega)]; assumption))) (by rfl) ?_
    refine R_X12_setCellG (by first | omega | assumption | (simp only [Ls_len]; omega) | exact Ls_get (by omega) (by omega) | rfl | decide) (by first | omega | assumption | (simp only [Ls_len]; omega) | exact Ls_get (by omega) (by omega) | rfl | decide) (by first | omega | assumption | (simp only [Ls_len]; omega) | exact Ls_get (by omega) (by omega) | rfl | decide) ?_
    intro h28 r28 s28
    have z28 := (r28 292 (by decide)).trans g1
    refine BX3_come_31 (by first | assumption | exact up_at _ _ _ | (rw [up_ne (by omega)]; first | assumption | exact up_at _ _ _ | (rw [up_ne (by omega)]; assumption))) (by simp) ?_
    refine BX3_come_36  ?_
    rw [if_neg (by omega)] at k
    refine k _ ((r28.wd (by decide) (by decide)).put (by decide) (by decide)) ⟨?_, ?_⟩
    · rw [up_at, fset_at, fset_ne (show (32 : Int) ≠ 33 by decide)]
      have e : sG 32 G (x * 4 + y) v 32 = G 32 := by unfold sG; split; exact fset_ne (by omega); rfl
      rw [e]; rfl
    · rw [up_ne (by decide), Ls_fst_ne (by decide)]; exact s28
  · intro hc2
    refine BX3_come_20  ?_
    (rw [if_pos (by omega)] at k; exact k _ (Fr.rf h 292 2) g9)
def lenM (Y : Int → Int) (c b : Int) : Int := digM (Y (12 + c)) - b
def rstM (Y : Int → Int) (c b : Int) : Int := Int.tmod (Y (12 + c)) (tenM (lenM Y c b))
def putM (Y : Int → Int) (G : Int → Int) (c b w v : Int) : Int → Int := if Y (12 + w) = rstM Y c b then fset G 32 (min (G 32) v) else if digM (Y (12 + w)) - lenM Y c b < 0 ∧ stM (rstM Y c b) (Y (12 + w)) ≠ 0 then comG G (c * 4 + (b + digM (Y (12 + w)))) v else if 0 < digM (Y (12 + w)) - lenM Y c b ∧ stM (Y (12 + w)) (rstM Y c b) ≠ 0 then comG G (w * 4 + lenM Y c b) (v + (digM (Y (12 + w)) - lenM Y c b)) else G
theorem R_X3_putBehind {c b w v : Int} (g : IsRg h G) (s : IsSa h 133 Y) (c0 : 0 ≤ c) (c1 : c < 8) (b0 : 1 ≤ b) (b1 : b ≤ 3) (w0 : 0 ≤ w) (w1 : w < 8) (v0 : 0 ≤ v) (v1 : v < 1000000) (y0 : 0 ≤ Y (12 + c)) (y1 : Y (12 + c) < 2147483648) (y2 : 0 ≤ Y (12 + w)) (y3 : Y (12 + w) < 2147483648) (k : ∀ h1, Fr h h1 292 2 → IsRg h1 (putM Y G c b w v) → Q none h1 n) : Rn (d + 3) bc bs mX3_putBehind 0 [some (vR (some 292)), some (vR (some 133)), some (vI c), some (vI b), some (vI w), some (vI v), none, none, none, none] [] h n Q := by
  unfold putM at k
  have d1 := digM_le (Y (12 + c))
  have d2 := digM_le (Y (12 + w))
  have e1 : lenM Y c b = digM (Y (12 + c)) - b := rfl
  have t1 := tenM_le (lenM Y c b)
  have e2 : rstM Y c b = Int.tmod (Y (12 + c)) (tenM (lenM Y c b)) := rfl
  have e3 : 0 ≤ rstM Y c b ∧ rstM Y c b < 2147483648 := by
    rw [e2, Int.tmod_eq_emod_of_nonneg y0]
    have := Int.emod_nonneg (Y (12 + c)) (show tenM (lenM Y c b) ≠ 0 by omega)
    have := Int.emod_lt_of_pos (Y (12 + c)) (show 0 < tenM (lenM Y c b) by omega)
    omega
  have g9 := g
  have s1 := s.1
  obtain ⟨g1, g2⟩ := g
  refine BX3_putBehind_0 (by first | assumption | exact up_at _ _ _ | (rw [up_ne (by omega)]; first | assumption | exact up_at _ _ _ | (rw [up_ne (by omega)]; assumption))) ?_
  refine R_X5_word (by first | omega | assumption | (simp only [Ls_len]; omega) | exact Ls_get (by omega) (by omega) | rfl | decide) (by first | omega | assumption | (simp only [Ls_len]; omega) | exact Ls_get (by omega) (by omega) | rfl | decide) (by first | omega | assumption | (simp only [Ls_len]; omega) | exact Ls_get (by omega) (by omega) | rfl | decide) (by first | omega | assumption | (simp only [Ls_len]; omega) | exact Ls_get (by omega) (by omega) | rfl | decide) ?_
  refine BX3_putBehind_5  ?_
  refine R_X3_digitsOf (by first | omega | assumption | (simp only [Ls_len]; omega) | exact Ls_get (by omega) (by omega) | rfl | decide) ?_
  refine BX3_putBehind_8 (by first | omega | assumption | (simp only [Ls_len]; omega) | exact Ls_get (by omega) (by omega) | rfl | decide) (by first | assumption | exact up_at _ _ _ | (rw [up_ne (by omega)]; first | assumption | exact up_at _ _ _ | (rw [up_ne (by omega)]; assumption))) ?_
  refine R_X5_word (by first | omega | assumption | (simp only [Ls_len]; omega) | exact Ls_get (by omega) (by omega) | rfl | decide) (by first | omega | assumption | (simp only [Ls_len]; omega) | exact Ls_get (by omega) (by omega) | rfl | decide) (by first | omega | assumption | (simp only [Ls_len]; omega) | exact Ls_get (by omega) (by omega) | rfl | decide) (by first | omega | assumption | (simp only [Ls_len]; omega) | exact Ls_get (by omega) (by omega) | rfl | decide) ?_
  rw [← e1]
  refine BX3_putBehind_17  ?_
  refine R_X3_lastOf  ?_
  rw [← e2]
  refine BX3_putBehind_22 (by first | assumption | exact up_at _ _ _ | (rw [up_ne (by omega)]; first | assumption | exact up_at _ _ _ | (rw [up_ne (by omega)]; assumption))) ?_
  refine R_X5_word (by first | omega | assumption | (simp only [Ls_len]; omega) | exact Ls_get (by omega) (by omega) | rfl | decide) (by first | omega | assumption | (simp only [Ls_len]; omega) | exact Ls_get (by omega) (by omega) | rfl | decide) (by first | omega | assumption | (simp only [Ls_len]; omega) | exact Ls_get (by omega) (by omega) | rfl | decide) (by first | omega | assumption | (simp only [Ls_len]; omega) | exact Ls_get (by omega) (by omega) | rfl | decide) ?_
  refine BX3_putBehind_30  ?_
  refine R_X3_digitsOf (by first | omega | assumption | (simp only [Ls_len]; omega) | exact Ls_get (by omega) (by omega) | rfl | decide) ?_
  refine BX3_putBehind_37 (by first | omega | assumption | (simp only [Ls_len]; omega) | exact Ls_get (by omega) (by omega) | rfl | decide) ?_ ?_
  · intro hc1
    refine BX3_putBehind_65  ?_ ?_
    · intro hc2
      refine BX3_putBehind_97  ?_ ?_
      · intro hc3
        refine BX3_putBehind_125  ?_
        first
        | (rw [if_neg (by omega), if_neg (by omega), if_neg (by omega)] at k; exact k _ (Fr.rf h 292 2) g9)
        | (rw [if_neg (by omega), if_neg (by omega), if_pos (by omega)] at k; exact k _ r122 g122)
      · intro hc4
        refine BX3_putBehind_102  ?_
        refine R_X3_startsWith (by first | omega | assumption | (simp only [Ls_len]; omega) | exact Ls_get (by omega) (by omega) | rfl | decide) (by first | omega | assumption | (simp only [Ls_len]; omega) | exact Ls_get (by omega) (by omega) | rfl | decide) (by first | omega | assumption | (simp only [Ls_len]; omega) | exact Ls_get (by omega) (by omega) | rfl | decide) ?_
        refine BX3_putBehind_109  ?_ ?_
        · intro hc5
          refine BX3_putBehind_125  ?_
          first
          | (rw [if_neg (by omega), if_neg (by omega), if_neg (by omega)] at k; exact k _ (Fr.rf h 292 2) g9)
          | (rw [if_neg (by omega), if_neg (by omega), if_pos (by omega)] at k; exact k _ r122 g122)
        · intro hc6
          refine BX3_putBehind_112 (by first | omega | assumption | (simp only [Ls_len]; omega) | exact Ls_get (by omega) (by omega) | rfl | decide) (by first | assumption | exact up_at _ _ _ | (rw [up_ne (by omega)]; first | assumption | exact up_at _ _ _ | (rw [up_ne (by omega)]; assumption))) ?_
          refine R_X3_come (by first | omega | assumption | (simp only [Ls_len]; omega) | exact Ls_get (by omega) (by omega) | rfl | decide) (by first | omega | assumption | (simp only [Ls_len]; omega) | exact Ls_get (by omega) (by omega) | rfl | decide) (by first | omega | assumption | (simp only [Ls_len]; omega) | exact Ls_get (by omega) (by omega) | rfl | decide) (by first | omega | assumption | (simp only [Ls_len]; omega) | exact Ls_get (by omega) (by omega) | rfl | decide) (by first | omega | assumption | (simp only [Ls_len]; omega) | exact Ls_get (by omega) (by omega) | rfl | decide) ?_
          intro h122 r122 g122
          refine BX3_putBehind_125  ?_
          first
          | (rw [if_neg (by omega), if_neg (by omega), if_neg (by omega)] at k; exact k _ (Fr.rf h 292 2) g9)
          | (rw [if_neg (by omega), if_neg (by omega), if_pos (by omega)] at k; exact k _ r122 g122)
    · intro hc7
      refine BX3_putBehind_70  ?_
      refine R_X3_startsWith (by first | omega | assumption | (simp only [Ls_len]; omega) | exact Ls_get (by omega) (by omega) | rfl | decide) (by first | omega | assumption | (simp only [Ls_len]; omega) | exact Ls_get (by omega) (by omega) | rfl | decide) (by first | omega | assumption | (simp only [Ls_len]; omega) | exact Ls_get (by omega) (by omega) | rfl | decide) ?_
      refine BX3_putBehind_77  ?_ ?_
      · intro hc8
        refine BX3_putBehind_97  ?_ ?_
        · intro hc9
          refine BX3_putBehind_125  ?_
          first
          | (rw [if_neg (by omega), if_neg (by omega), if_neg (by omega)] at k; exact k _ (Fr.rf h 292 2) g9)
          | (rw [if_neg (by omega), if_neg (by omega), if_pos (by omega)] at k; exact k _ r122 g122)
        · intro hc10
          refine BX3_putBehind_102  ?_
          refine R_X3_startsWith (by first | omega | assumption | (simp only [Ls_len]; omega) | exact Ls_get (by omega) (by omega) | rfl | decide) (by first | omega | assumption | (simp only [Ls_len]; omega) | exact Ls_get (by omega) (by omega) | rfl | decide) (by first | omega | assumption | (simp only [Ls_len]; omega) | exact Ls_get (by omega) (by omega) | rfl | decide) ?_
          refine BX3_putBehind_109  ?_ ?_
          · intro hc11
            refine BX3_putBehind_125  ?_
            first
            | (rw [if_neg (by omega), if_neg (by omega), if_neg (by omega)] at k; exact k _ (Fr.rf h 292 2) g9)
            | (rw [if_neg (by omega), if_neg (by omega), if_pos (by omega)] at k; exact k _ r122 g122)
          · intro hc12
            refine BX3_putBehind_112 (by first | omega | assumption | (simp only [Ls_len]; omega) | exact Ls_get (by omega) (by omega) | rfl | decide) (by first | assumption | exact up_at _ _ _ | (rw [up_ne (by omega)]; first | assumption | exact up_at _ _ _ | (rw [up_ne (by omega)]; assumption))) ?_
            refine R_X3_come (by first | omega | assumption | (simp only [Ls_len]; omega) | exact Ls_get (by omega) (by omega) | rfl | decide) (by first | omega | assumption | (simp only [Ls_len]; omega) | exact Ls_get (by omega) (by omega) | rfl | decide) (by first | omega | assumption | (simp only [Ls_len]; omega) | exact Ls_get (by omega) (by omega) | rfl | decide) (by first | omega | assumption | (simp only [Ls_len]; omega) | exact Ls_get (by omega) (by omega) | rfl | decide) (by first | omega | assumption | (simp only [Ls_len]; omega) | exact Ls_get (by omega) (by omega) | rfl | decide) ?_
            intro h122 r122 g122
            refine BX3_putBehind_125  ?_
            first
            | (rw [if_neg (by omega), if_neg (by omega), if_neg (by omega)] at k; exact k _ (Fr.rf h 292 2) g9)
            | (rw [if_neg (by omega), if_neg (by omega), if_pos (by omega)] at k; exact k _ r122 g122)
      · intro hc13
        refine BX3_putBehind_80  ?_
        refine R_X3_digitsOf (by first | omega | assumption | (simp only [Ls_len]; omega) | exact Ls_get (by omega) (by omega) | rfl | decide) ?_
        refine BX3_putBehind_88 (by first | omega | assumption | (simp only [Ls_len]; omega) | exact Ls_get (by omega) (by omega) | rfl | decide) (by first | assumption | exact up_at _ _ _ | (rw [up_ne (by omega)]; first | assumption | exact up_at _ _ _ | (rw [up_ne (by omega)]; assumption))) ?_
        refine R_X3_come (by first | omega | assumption | (simp only [Ls_len]; omega) | exact Ls_get (by omega) (by omega) | rfl | decide) (by first | omega | assumption | (simp only [Ls_len]; omega) | exact Ls_get (by omega) (by omega) | rfl | decide) (by first | omega | assumption | (simp only [Ls_len]; omega) | exact Ls_get (by omega) (by omega) | rfl | decide) (by first | omega | assumption | (simp only [Ls_len]; omega) | exact Ls_get (by omega) (by omega) | rfl | decide) (by first | omega | assumption | (simp only [Ls_len]; omega) | exact Ls_get (by omega) (by omega) | rfl | decide) ?_
        intro h91 r91 g91
        refine BX3_putBehind_94  ?_
        (rw [if_neg (by omega), if_pos (by omega)] at k; exact k _ r91 g91)
  · intro hc14
    refine BX3_putBehind_49 (by first | assumption | exact up_at _ _ _ | (rw [up_ne (by omega)]; first | assumption | exact up_at _ _ _ | (rw [up_ne (by omega)]; assumption))) (by rfl) ?_
    refine R_J9_min  ?_
    refine BX3_putBehind_59 (by first | assumption | exact up_at _ _ _ | (rw [up_ne (by omega)]; first | assumption | exact up_at _ _ _ | (rw [up_ne (by omega)]; assumption))) (by simp) ?_
    refine BX3_putBehind_62  ?_
    rw [if_pos (by omega)] at k
    refine k _ ((Fr.rf h 292 2).put (by omega) (by omega)) ⟨?_, ?_⟩
    · rw [up_at, fset_at, fset_ne (show (33 : Int) ≠ 32 by decide)]; rfl
    · rw [up_ne (by decide), Ls_fst_ne (by decide)]; exact g2
def inM (Y : Int → Int) (c b v : Int) : Nat → Int → (Int → Int) → Int → Int
  | 0, _, G => G
  | m + 1, w, G => inM Y c b v m (w + 1) (putM Y G c b w v)
def behM (Y : Int → Int) (cc : Nat) (c : Int) : Nat → Int → (Int → Int) → Int → Int
  | 0, _, G => G
  | m + 1, b, G => behM Y cc c m (b + 1) (if 1000000 ≤ cG 32 G (c * 4 + b) then G else inM Y c b (cG 32 G (c * 4 + b)) cc 0 G)
def ovM (Y : Int → Int) (cc : Nat) : Nat → Int → (Int → Int) → Int → Int
  | 0, _, G => G
  | m + 1, c, G => ovM Y cc m (c + 1) (behM Y cc c 3 1 G)
def psM (Y : Int → Int) (cc : Nat) : Nat → (Int → Int) → Int → Int
  | 0, G => G
  | m + 1, G => if G 33 = 0 then G else psM Y cc m (ovM Y cc cc 0 (fset G 33 0))
def hdM (Y : Int → Int) (l : Int) : Nat → Int → (Int → Int) → Int → Int
  | 0, _, G => G
  | m + 1, e, G => hdM Y l m (e + 1) (if l ≠ e ∧ stM (Y (12 + l)) (Y (12 + e)) ≠ 0 then comG G (l * 4 + digM (Y (12 + e))) (digM (Y (12 + l))) else G)
def lgM (Y : Int → Int) (cc : Nat) : Nat → Int → (Int → Int) → Int → Int
  | 0, _, G => G
  | m + 1, l, G => lgM Y cc m (l + 1) (hdM Y l cc 0 G)
def g0M : Int → Int := fun i => if i = 33 then 1 else 1000000
def suM (Y : Int → Int) : Int → Int := psM Y (Y 53).toNat 32 (lgM Y (Y 53).toNat (Y 53).toNat 0 g0M)
def aSu (Y : Int → Int) : Int := if suM Y 32 = 1000000 then -1 else suM Y 32
def aClear (W : Int → Int → Int) (x : Int) : Int := if 0 ≤ x ∧ x ≤ 1 then (if x = 1 then aSu (W 2) else if aSu (W 2) = -1 then 1 else 0) else -1
def okG (G : Int → Int) : Prop := ∀ i, 0 ≤ i → i < 32 → 0 ≤ G i
theorem cG_ok {G : Int → Int} (o : okG G) (i : Int) : 0 ≤ cG 32 G i := by unfold cG; split; exact o _ (by omega) (by omega); exact Int.le_refl _
theorem comG_ok {G : Int → Int} {i v : Int} (o : okG G) (v0 : 0 ≤ v) : okG (comG G i v) := by
  unfold comG sG
  split
  · exact o
  · intro j j0 j1
    rw [fset_ne (by omega)]
    split
    · by_cases q : j = i
      · rw [q, fset_at]; exact v0
      · rw [fset_ne q]; exact o j j0 j1
    · exact o j j0 j1
theorem putM_ok {Y G : Int → Int} {c b w v : Int} (o : okG G) (v0 : 0 ≤ v) : okG (putM Y G c b w v) := by
  unfold putM
  split
  · intro j j0 j1; rw [fset_ne (by omega)]; exact o j j0 j1
  · split
    · exact comG_ok o v0
    · split
      · exact comG_ok o (by omega)
      · exact o
theorem inM_ok {Y : Int → Int} {c b v : Int} (v0 : 0 ≤ v) : ∀ (m : Nat) (w : Int) (G : Int → Int), okG G → okG (inM Y c b v m w G) := by
  intro m
  induction m with
  | zero => intro w G o; exact o
  | succ m ih => intro w G o; exact ih _ _ (putM_ok o v0)
theorem behM_ok {Y : Int → Int} {cc : Nat} {c : Int} : ∀ (m : Nat) (b : Int) (G : Int → Int), okG G → okG (behM Y cc c m b G) := by
  intro m
  induction m with
  | zero => intro b G o; exact o
  | succ m ih => intro b G o; refine ih _ _ ?_; split; exact o; exact inM_ok (cG_ok o _) _ _ _ o
theorem ovM_ok {Y : Int → Int} {cc : Nat} : ∀ (m : Nat) (c : Int) (G : Int → Int), okG G → okG (ovM Y cc m c G) := by
  intro m
  induction m with
  | zero => intro c G o; exact o
  | succ m ih => intro c G o; exact ih _ _ (behM_ok _ _ _ o)
theorem hdM_ok {Y : Int → Int} {l : Int} : ∀ (m : Nat) (e : Int) (G : Int → Int), okG G → okG (hdM Y l m e G) := by
  intro m
  induction m with
  | zero => intro e G o; exact o
  | succ m ih => intro e G o; refine ih _ _ ?_; split; exact comG_ok o (digM_le _).1; exact o
theorem lgM_ok {Y : Int → Int} {cc : Nat} : ∀ (m : Nat) (l : Int) (G : Int → Int), okG G → okG (lgM Y cc m l G) := by
  intro m
  induction m with
  | zero => intro l G o; exact o
  | succ m ih => intro l G o; exact ih _ _ (hdM_ok _ _ _ o)
theorem nearer_ok {G : Int → Int} (o : okG G) (v : Int) : okG (fset G 33 v) := by intro j j0 j1; rw [fset_ne (by omega)]; exact o j j0 j1
def okWd (Y : Int → Int) : Prop := 0 ≤ Y 53 ∧ Y 53 ≤ 8 ∧ ∀ i, 0 ≤ i → i < Y 53 → 0 ≤ Y (12 + i) ∧ Y (12 + i) < 2147483648
theorem R_X3_passOver (g : IsRg h G) (s : IsSa h 133 Y) (o : okG G) (y : okWd Y) (k : ∀ h1, Fr h h1 292 2 → IsRg h1 (ovM Y (Y 53).toNat (Y 53).toNat 0 G) → Q none h1 n) : Rn (d + 4) bc bs mX3_passOver 0 [some (vR (some 292)), some (vR (some 133)), none, none, none, none] [] h n Q := by
  obtain ⟨y0, y1, y2⟩ := y
  have in44 : ∀ (c b v : Int) (m : Nat) (w : Int) (h1 : aH) (G : Int → Int), 0 ≤ c → c < Y 53 → 1 ≤ b → b ≤ 3 → 0 ≤ v → v < 1000000 → 0 ≤ w → w + m = Y 53 → IsRg h1 G → IsSa h1 133 Y → (∀ h2 l5, Fr h1 h2 292 2 → IsRg h2 (inM Y c b v m w G) → Rn (d + 4) bc bs mX3_passOver 12 [some (vR (some 292)), some (vR (some 133)), some (vI c), some (vI (b + 1)), some (vI v), l5] [] h2 n Q) → Rn (d + 4) bc bs mX3_passOver 44 [some (vR (some 292)), some (vR (some 133)), some (vI c), some (vI b), some (vI v), some (vI w)] [] h1 n Q := by
    intro c b v m
    induction m with
    | zero =>
      intro w h1 G c0 c1 b0 b1 v0 v1 w0 w1 g s k
      have s9 := s
      have g0 := g.1
      obtain ⟨s1, s2, s3, s4, s5, s6, s7, s8⟩ := s
      refine BX3_passOver_44 (by first | assumption | exact up_at _ _ _ | (rw [up_ne (by omega)]; first | assumption | exact up_at _ _ _ | (rw [up_ne (by omega)]; assumption))) (by rfl) ?_ ?_
      · intro hc1
        first
        | (exfalso; omega)
        | (
            refine BX3_passOver_70 (by first | omega | assumption | (simp only [Ls_len]; omega) | exact Ls_get (by omega) (by omega) | rfl | decide) ?_
            exact k _ _ (Fr.rf h1 292 2) g
          )
      · intro hc2
        first
        | (exfalso; omega)
        | (
            (exfalso; omega)
          )
    | succ m ih =>
      intro w h1 G c0 c1 b0 b1 v0 v1 w0 w1 g s k
      have s9 := s
      have g0 := g.1
      have y3 := y2 c (by omega) (by omega)
      have y4 := y2 w (by omega) (by omega)
      obtain ⟨s1, s2, s3, s4, s5, s6, s7, s8⟩ := s
      refine BX3_passOver_44 (by first | assumption | exact up_at _ _ _ | (rw [up_ne (by omega)]; first | assumption | exact up_at _ _ _ | (rw [up_ne (by omega)]; assumption))) (by rfl) ?_ ?_
      · intro hc1
        refine BX3_passOver_70 (by first | omega | assumption | (simp only [Ls_len]; omega) | exact Ls_get (by omega) (by omega) | rfl | decide) ?_
        (exfalso; omega)
      · intro hc2
        refine BX3_passOver_53 (by first | assumption | exact up_at _ _ _ | (rw [up_ne (by omega)]; first | assumption | exact up_at _ _ _ | (rw [up_ne (by omega)]; assumption))) ?_
        refine R_X3_putBehind (by first | omega | assumption | (simp only [Ls_len]; omega) | exact Ls_get (by omega) (by omega) | rfl | decide) (by first | omega | assumption | (simp only [Ls_len]; omega) | exact Ls_get (by omega) (by omega) | rfl | decide) (by first | omega | assumption | (simp only [Ls_len]; omega) | exact Ls_get (by omega) (by omega) | rfl | decide) (by first | omega | assumption | (simp only [Ls_len]; omega) | exact Ls_get (by omega) (by omega) | rfl | decide) (by first | omega | assumption | (simp only [Ls_len]; omega) | exact Ls_get (by omega) (by omega) | rfl | decide) (by first | omega | assumption | (simp only [Ls_len]; omega) | exact Ls_get (by omega) (by omega) | rfl | decide) (by first | omega | assumption | (simp only [Ls_len]; omega) | exact Ls_get (by omega) (by omega) | rfl | decide) (by first | omega | assumption | (simp only [Ls_len]; omega) | exact Ls_get (by omega) (by omega) | rfl | decide) (by first | omega | assumption | (simp only [Ls_len]; omega) | exact Ls_get (by omega) (by omega) | rfl | decide) (by first | omega | assumption | (simp only [Ls_len]; omega) | exact Ls_get (by omega) (by omega) | rfl | decide) (by first | omega | assumption | (simp only [Ls_len]; omega) | exact Ls_get (by omega) (by omega) | rfl | decide) (by first | omega | assumption | (simp only [Ls_len]; omega) | exact Ls_get (by omega) (by omega) | rfl | decide) (by first | omega | assumption | (simp only [Ls_len]; omega) | exact Ls_get (by omega) (by omega) | rfl | decide) (by first | omega | assumption | (simp only [Ls_len]; omega) | exact Ls_get (by omega) (by omega) | rfl | decide) ?_
        intro h61 r61 g61
        refine BX3_passOver_64 (by first | omega | assumption | (simp only [Ls_len]; omega) | exact Ls_get (by omega) (by omega) | rfl | decide) ?_
        exact ih _ _ _ c0 c1 b0 b1 v0 v1 (by omega) (by omega) g61 (s9.fr r61 (by omega)) (fun h2 l5 q1 q2 => k h2 l5 (r61.tr q1) q2)
  have in12 : ∀ (c : Int) (m : Nat) (b : Int) (l4 l5 : Option aV) (h1 : aH) (G : Int → Int), 0 ≤ c → c < Y 53 → 1 ≤ b → b + m = 4 → okG G → IsRg h1 G → IsSa h1 133 Y → (∀ h2 l3 l4 l5, Fr h1 h2 292 2 → IsRg h2 (behM Y (Y 53).toNat c m b G) → Rn (d + 4) bc bs mX3_passOver 2 [some (vR (some 292)), some (vR (some 133)), some (vI (c + 1)), l3, l4, l5] [] h2 n Q) → Rn (d + 4) bc bs mX3_passOver 12 [some (vR (some 292)), some (vR (some 133)), some (vI c), some (vI b), l4, l5] [] h1 n Q := by
    intro c m
    induction m with
    | zero =>
      intro b l4 l5 h1 G c0 c1 b0 b1 o g s k
      refine BX3_passOver_12  ?_ ?_
      · intro hc1
        first
        | (exfalso; omega)
        | (
            refine BX3_passOver_76 (by first | omega | assumption | (simp only [Ls_len]; omega) | exact Ls_get (by omega) (by omega) | rfl | decide) ?_
            exact k _ _ _ _ (Fr.rf h1 292 2) g
          )
      · intro hc2
        first
        | (exfalso; omega)
        | (
            (exfalso; omega)
          )
    | succ m ih =>
      intro b l4 l5 h1 G c0 c1 b0 b1 o g s k
      have s9 := s
      have g0 := g.1
      have g9 := g
      have o1 := cG_ok o (c * 4 + b)
      unfold behM at k
      obtain ⟨g1, g2⟩ := g
      refine BX3_passOver_12  ?_ ?_
      · intro hc1
        refine BX3_passOver_76 (by first | omega | assumption | (simp only [Ls_len]; omega) | exact Ls_get (by omega) (by omega) | rfl | decide) ?_
        (exfalso; omega)
      · intro hc2
        refine BX3_passOver_17 (by first | assumption | exact up_at _ _ _ | (rw [up_ne (by omega)]; first | assumption | exact up_at _ _ _ | (rw [up_ne (by omega)]; assumption))) (by rfl) (by first | omega | assumption | (simp only [Ls_len]; omega) | exact Ls_get (by omega) (by omega) | rfl | decide) (by first | omega | assumption | (simp only [Ls_len]; omega) | exact Ls_get (by omega) (by omega) | rfl | decide) ?_
        refine R_X12_cellG (by first | omega | assumption | (simp only [Ls_len]; omega) | exact Ls_get (by omega) (by omega) | rfl | decide) (by first | omega | assumption | (simp only [Ls_len]; omega) | exact Ls_get (by omega) (by omega) | rfl | decide) (by first | omega | assumption | (simp only [Ls_len]; omega) | exact Ls_get (by omega) (by omega) | rfl | decide) ?_
        refine BX3_passOver_29  ?_ ?_
        · intro hc3
          refine BX3_passOver_41  ?_
          rw [if_neg (by omega)] at k
          refine in44 c b _ (Y 53).toNat 0 _ G c0 c1 b0 (by omega) o1 (by omega) (by omega) (by omega) g9 s9 (fun h2 l5 q1 q2 => ?_)
          exact ih _ _ _ _ _ c0 c1 (by omega) (by omega) (inM_ok o1 _ _ _ o) q2 (s9.fr q1 (by omega)) (fun h3 l3 l4 l5 p1 p2 => k h3 l3 l4 l5 (q1.tr p1) p2)
        · intro hc4
          refine BX3_passOver_38 (by first | omega | assumption | (simp only [Ls_len]; omega) | exact Ls_get (by omega) (by omega) | rfl | decide) ?_
          (rw [if_pos (by omega)] at k; exact ih _ _ _ _ _ c0 c1 (by omega) (by omega) o g9 s9 k)
  have in2 : ∀ (m : Nat) (c : Int) (l3 l4 l5 : Option aV) (h1 : aH) (G : Int → Int), 0 ≤ c → c + m = Y 53 → okG G → IsRg h1 G → IsSa h1 133 Y → (∀ h2, Fr h1 h2 292 2 → IsRg h2 (ovM Y (Y 53).toNat m c G) → Q none h2 n) → Rn (d + 4) bc bs mX3_passOver 2 [some (vR (some 292)), some (vR (some 133)), some (vI c), l3, l4, l5] [] h1 n Q := by
    intro m
    induction m with
    | zero =>
      intro c l3 l4 l5 h1 G c0 c1 o g s k
      have s9 := s
      have g0 := g.1
      obtain ⟨s1, s2, s3, s4, s5, s6, s7, s8⟩ := s
      refine BX3_passOver_2 (by first | assumption | exact up_at _ _ _ | (rw [up_ne (by omega)]; first | assumption | exact up_at _ _ _ | (rw [up_ne (by omega)]; assumption))) (by rfl) ?_ ?_
      · intro hc1
        first
        | (exfalso; omega)
        | (
            refine BX3_passOver_82  ?_
            exact k _ (Fr.rf h1 292 2) g
          )
      · intro hc2
        first
        | (exfalso; omega)
        | (
            refine BX3_passOver_10  ?_
            (exfalso; omega)
          )
    | succ m ih =>
      intro c l3 l4 l5 h1 G c0 c1 o g s k
      have s9 := s
      have g0 := g.1
      obtain ⟨s1, s2, s3, s4, s5, s6, s7, s8⟩ := s
      refine BX3_passOver_2 (by first | assumption | exact up_at _ _ _ | (rw [up_ne (by omega)]; first | assumption | exact up_at _ _ _ | (rw [up_ne (by omega)]; assumption))) (by rfl) ?_ ?_
      · intro hc1
        first
        | (exfalso; omega)
        | (
            refine BX3_passOver_82  ?_
            (exfalso; omega)
          )
      · intro hc2
        first
        | (exfalso; omega)
        | (
            refine BX3_passOver_10  ?_
            refine in12 c 3 1 _ _ _ G c0 (by omega) (by omega) (by omega) o g s9 (fun h2 l3 l4 l5 q1 q2 => ?_)
            exact ih _ _ _ _ _ _ (by omega) (by omega) (behM_ok _ _ _ o) q2 (s9.fr q1 (by omega)) (fun h3 p1 p2 => k h3 (q1.tr p1) p2)
          )
  refine BX3_passOver_0  ?_
  exact in2 (Y 53).toNat 0 _ _ _ _ G (by omega) (by omega) o g s k
def filF (f : Int → Int) (i v : Int) : Int → Int := fun j => if j < i then v else f j
theorem R_J7_fill {a m : Nat} {v : Int} {f : Int → Int} (hh : h a = cI (Ls m f)) (ha : a ≠ 0) (hl : m < 2147483648) (k : ∀ h1, Fr h h1 a 1 → h1 a = cI (Ls m (fun _ => v)) → Q none h1 n) : Rn d bc bs mJ7_fill_53178 0 [some (vR (some a)), some (vI v), none, none] [] h n Q := by
  have loop : ∀ (j : Nat) (i : Int) (h1 : aH), 0 ≤ i → i + j = m → h1 a = cI (Ls m (filF f i v)) → (∀ h2, Fr h1 h2 a 1 → h2 a = cI (Ls m (fun _ => v)) → Q none h2 n) → Rn d bc bs mJ7_fill_53178 5 [some (vR (some a)), some (vI v), some (vI i), some (vI (m : Int))] [] h1 n Q := by
    intro j
    induction j with
    | zero =>
      intro i h1 i0 i1 hh k
      have l1 := Ls_len m (filF f i v)
      refine BJ7_fill_53178_5  ?_ ?_
      · intro hc1
        first
        | (exfalso; omega)
        | (
            refine BJ7_fill_53178_20  ?_
            refine k _ (Fr.rf h1 a 1) (hh.trans ?_)
            exact congrArg _ (Ls_ext fun x x0 x1 => by unfold filF; rw [if_pos (by omega)])
          )
      · intro hc2
        first
        | (exfalso; omega)
        | (
            (exfalso; omega)
          )
    | succ j ih =>
      intro i h1 i0 i1 hh k
      have l1 := Ls_len m (filF f i v)
      refine BJ7_fill_53178_5  ?_ ?_
      · intro hc1
        first
        | (exfalso; omega)
        | (
            refine BJ7_fill_53178_20  ?_
            (exfalso; omega)
          )
      · intro hc2
        first
        | (exfalso; omega)
        | (
            refine BJ7_fill_53178_10 (by first | assumption | exact up_at _ _ _ | (rw [up_ne (by omega)]; first | assumption | exact up_at _ _ _ | (rw [up_ne (by omega)]; assumption))) (by first | omega | assumption | (simp only [Ls_len]; omega) | exact Ls_get (by omega) (by omega) | rfl | decide) (by first | omega | assumption | (simp only [Ls_len]; omega) | exact Ls_get (by omega) (by omega) | rfl | decide) (by first | omega | assumption | (simp only [Ls_len]; omega) | exact Ls_get (by omega) (by omega) | rfl | decide) ?_
            try rw [Ls_set (by omega)]
            refine BJ7_fill_53178_14 (by first | omega | assumption | (simp only [Ls_len]; omega) | exact Ls_get (by omega) (by omega) | rfl | decide) ?_
            refine ih _ _ (by omega) (by omega) ?_ (fun h2 q1 q2 => k h2 (((Fr.rf h1 a 1).put (by omega) (by omega)).tr q1) q2)
            rw [up_at]
            congr 1
            refine Ls_ext fun x x0 x1 => ?_
            by_cases q : x = i
            · rw [q, fset_at]; unfold filF; rw [if_pos (by omega)]
            · rw [fset_ne q]; unfold filF
              by_cases q2 : x < i
              · rw [if_pos q2, if_pos (by omega)]
              · rw [if_neg q2, if_neg (by omega)]
          )
  have l1 := Ls_len m f
  refine BJ7_fill_53178_0 (by first | assumption | exact up_at _ _ _ | (rw [up_ne (by omega)]; first | assumption | exact up_at _ _ _ | (rw [up_ne (by omega)]; assumption))) (by first | omega | assumption | (simp only [Ls_len]; omega) | exact Ls_get (by omega) (by omega) | rfl | decide) (by first | omega | assumption | (simp only [Ls_len]; omega) | exact Ls_get (by omega) (by omega) | rfl | decide) ?_
  rw [l1]
  refine loop m 0 _ (by omega) (by omega) (hh.trans ?_) k
  exact congrArg _ (Ls_ext fun x x0 x1 => by unfold filF; rw [if_neg (by omega)])
theorem IsRi.ofRg {h1 : aH} (i : IsRi h) (f : Fr h h1 292 2) (g : IsRg h1 G) : IsRi h1 := by
  obtain ⟨n1, n2, f1, f2, f3, f4, s1, s2, s3, s4, s5⟩ := i
  exact ⟨G 32, G 33, G, f2, f3, f4, g.1, g.2, (f _ (by decide)).trans s3, (f _ (by decide)).trans s4, (f _ (by decide)).trans s5⟩
theorem R_X3_shortestUnclear (i : IsRi h) (s : IsSa h 133 Y) (y : okWd Y) (k : ∀ h1, Fr h h1 292 5 → IsRi h1 → Q (some (vI (aSu Y))) h1 n) : Rn (d + 5) bc bs mX3_shortestUnclear 0 [some (vR (some 292)), some (vR (some 133)), none, none, none, none] [] h n Q := by
  obtain ⟨y0, y1, y2⟩ := id y
  have in109 : ∀ (m : Nat) (p : Int) (l3 l4 l5 : Option aV) (h1 : aH) (G : Int → Int), 0 ≤ p → p + m = 32 → okG G → IsRg h1 G → IsSa h1 133 Y → (∀ h2, Fr h1 h2 292 2 → IsRg h2 (psM Y (Y 53).toNat m G) → Q (some (vI (if psM Y (Y 53).toNat m G 32 = 1000000 then -1 else psM Y (Y 53).toNat m G 32))) h2 n) → Rn (d + 5) bc bs mX3_shortestUnclear 109 [some (vR (some 292)), some (vR (some 133)), some (vI p), l3, l4, l5] [] h1 n Q := by
    intro m
    induction m with
    | zero =>
      intro p l3 l4 l5 h1 G p0 p1 o g s k
      have l1 := Ls_len 32 G
      have g9 := g
      obtain ⟨g1, g2⟩ := g
      unfold psM at k
      refine BX3_shortestUnclear_109 (by first | assumption | exact up_at _ _ _ | (rw [up_ne (by omega)]; first | assumption | exact up_at _ _ _ | (rw [up_ne (by omega)]; assumption))) (by rfl) (by first | assumption | exact up_at _ _ _ | (rw [up_ne (by omega)]; first | assumption | exact up_at _ _ _ | (rw [up_ne (by omega)]; assumption))) (by first | omega | assumption | (simp only [Ls_len]; omega) | exact Ls_get (by omega) (by omega) | rfl | decide) (by first | omega | assumption | (simp only [Ls_len]; omega) | exact Ls_get (by omega) (by omega) | rfl | decide) ?_ ?_
      · intro hc1
        refine BX3_shortestUnclear_141 (by first | assumption | exact up_at _ _ _ | (rw [up_ne (by omega)]; first | assumption | exact up_at _ _ _ | (rw [up_ne (by omega)]; assumption))) (by rfl) ?_ ?_
        · intro hc2
          refine BX3_shortestUnclear_154 (by first | assumption | exact up_at _ _ _ | (rw [up_ne (by omega)]; first | assumption | exact up_at _ _ _ | (rw [up_ne (by omega)]; assumption))) (by rfl) ?_
          first | (rw [if_neg (by omega)] at k; exact k _ (Fr.rf h1 292 2) g9) | (exfalso; omega)
        · intro hc3
          refine BX3_shortestUnclear_150  ?_
          first | (rw [if_pos (by omega)] at k; exact k _ (Fr.rf h1 292 2) g9) | (exfalso; omega)
      · intro hc4
        refine BX3_shortestUnclear_118 (by first | assumption | exact up_at _ _ _ | (rw [up_ne (by omega)]; first | assumption | exact up_at _ _ _ | (rw [up_ne (by omega)]; assumption))) (by rfl) ?_ ?_
        · intro hc5
          refine BX3_shortestUnclear_141 (by first | assumption | exact up_at _ _ _ | (rw [up_ne (by omega)]; first | assumption | exact up_at _ _ _ | (rw [up_ne (by omega)]; assumption))) (by rfl) ?_ ?_
          · intro hc6
            refine BX3_shortestUnclear_154 (by first | assumption | exact up_at _ _ _ | (rw [up_ne (by omega)]; first | assumption | exact up_at _ _ _ | (rw [up_ne (by omega)]; assumption))) (by rfl) ?_
            first | (rw [if_neg (by omega)] at k; exact k _ (Fr.rf h1 292 2) g9) | (exfalso; omega)
          · intro hc7
            refine BX3_shortestUnclear_150  ?_
            first | (rw [if_pos (by omega)] at k; exact k _ (Fr.rf h1 292 2) g9) | (exfalso; omega)
        · intro hc8
          refine BX3_shortestUnclear_125 (by first | assumption | exact up_at _ _ _ | (rw [up_ne (by omega)]; first | assumption | exact up_at _ _ _ | (rw [up_ne (by omega)]; assumption))) (by simp) ?_
          refine BX3_shortestUnclear_130 (by first | assumption | exact up_at _ _ _ | (rw [up_ne (by omega)]; first | assumption | exact up_at _ _ _ | (rw [up_ne (by omega)]; assumption))) ?_
          refine R_X3_passOver (by first | omega | assumption | (simp only [Ls_len]; omega) | exact Ls_get (by omega) (by omega) | rfl | decide) (by first | omega | assumption | (simp only [Ls_len]; omega) | exact Ls_get (by omega) (by omega) | rfl | decide) (by first | omega | assumption | (simp only [Ls_len]; omega) | exact Ls_get (by omega) (by omega) | rfl | decide) (by first | omega | assumption | (simp only [Ls_len]; omega) | exact Ls_get (by omega) (by omega) | rfl | decide) ?_
          intro h132 r132 g132
          refine BX3_shortestUnclear_135 (by first | omega | assumption | (simp only [Ls_len]; omega) | exact Ls_get (by omega) (by omega) | rfl | decide) ?_
          (exfalso; omega)
    | succ m ih =>
      intro p l3 l4 l5 h1 G p0 p1 o g s k
      have l1 := Ls_len 32 G
      have g9 := g
      obtain ⟨g1, g2⟩ := g
      have g8 : IsRg (up h1 292 (cO 3 (List.set [vR (some 293), vR (some 294), vR (some 295), vR (some 296), vI (G 32), vI (G 33)] 5 (vI 0)))) (fset G 33 0) := ⟨by rw [up_at, fset_at, fset_ne (show (32 : Int) ≠ 33 by decide)]; rfl, by rw [up_ne (by decide), Ls_fst_ne (by decide)]; exact g2⟩
      have s8 := s.fr (Fr.one h1 292 (cO 3 (List.set [vR (some 293), vR (some 294), vR (some 295), vR (some 296), vI (G 32), vI (G 33)] 5 (vI 0)))) (by decide)
      have o8 := nearer_ok o 0
      unfold psM at k
      refine BX3_shortestUnclear_109 (by first | assumption | exact up_at _ _ _ | (rw [up_ne (by omega)]; first | assumption | exact up_at _ _ _ | (rw [up_ne (by omega)]; assumption))) (by rfl) (by first | assumption | exact up_at _ _ _ | (rw [up_ne (by omega)]; first | assumption | exact up_at _ _ _ | (rw [up_ne (by omega)]; assumption))) (by first | omega | assumption | (simp only [Ls_len]; omega) | exact Ls_get (by omega) (by omega) | rfl | decide) (by first | omega | assumption | (simp only [Ls_len]; omega) | exact Ls_get (by omega) (by omega) | rfl | decide) ?_ ?_
      · intro hc1
        refine BX3_shortestUnclear_141 (by first | assumption | exact up_at _ _ _ | (rw [up_ne (by omega)]; first | assumption | exact up_at _ _ _ | (rw [up_ne (by omega)]; assumption))) (by rfl) ?_ ?_
        · intro hc2
          refine BX3_shortestUnclear_154 (by first | assumption | exact up_at _ _ _ | (rw [up_ne (by omega)]; first | assumption | exact up_at _ _ _ | (rw [up_ne (by omega)]; assumption))) (by rfl) ?_
          first | (exfalso; omega) | (rw [if_pos (by omega), if_neg (by omega)] at k; exact k _ (Fr.rf h1 292 2) g9)
        · intro hc3
          refine BX3_shortestUnclear_150  ?_
          first | (exfalso; omega) | (rw [if_pos (by omega), if_pos (by omega)] at k; exact k _ (Fr.rf h1 292 2) g9)
      · intro hc4
        refine BX3_shortestUnclear_118 (by first | assumption | exact up_at _ _ _ | (rw [up_ne (by omega)]; first | assumption | exact up_at _ _ _ | (rw [up_ne (by omega)]; assumption))) (by rfl) ?_ ?_
        · intro hc5
          refine BX3_shortestUnclear_141 (by first | assumption | exact up_at _ _ _ | (rw [up_ne (by omega)]; first | assumption | exact up_at _ _ _ | (rw [up_ne (by omega)]; assumption))) (by rfl) ?_ ?_
          · intro hc6
            refine BX3_shortestUnclear_154 (by first | assumption | exact up_at _ _ _ | (rw [up_ne (by omega)]; first | assumption | exact up_at _ _ _ | (rw [up_ne (by omega)]; assumption))) (by rfl) ?_
            first | (exfalso; omega) | (rw [if_pos (by omega), if_neg (by omega)] at k; exact k _ (Fr.rf h1 292 2) g9)
          · intro hc7
            refine BX3_shortestUnclear_150  ?_
            first | (exfalso; omega) | (rw [if_pos (by omega), if_pos (by omega)] at k; exact k _ (Fr.rf h1 292 2) g9)
        · intro hc8
          refine BX3_shortestUnclear_125 (by first | assumption | exact up_at _ _ _ | (rw [up_ne (by omega)]; first | assumption | exact up_at _ _ _ | (rw [up_ne (by omega)]; assumption))) (by simp) ?_
          refine BX3_shortestUnclear_130 (by first | assumption | exact up_at _ _ _ | (rw [up_ne (by omega)]; first | assumption | exact up_at _ _ _ | (rw [up_ne (by omega)]; assumption))) ?_
          refine R_X3_passOver (by first | omega | assumption | (simp only [Ls_len]; omega) | exact Ls_get (by omega) (by omega) | rfl | decide) (by first | omega | assumption | (simp only [Ls_len]; omega) | exact Ls_get (by omega) (by omega) | rfl | decide) (by first | omega | assumption | (simp only [Ls_len]; omega) | exact Ls_get (by omega) (by omega) | rfl | decide) (by first | omega | assumption | (simp only [Ls_len]; omega) | exact Ls_get (by omega) (by omega) | rfl | decide) ?_
          intro h132 r132 g132
          refine BX3_shortestUnclear_135 (by first | omega | assumption | (simp only [Ls_len]; omega) | exact Ls_get (by omega) (by omega) | rfl | decide) ?_
          rw [if_neg (by omega)] at k
          have r1 := ((Fr.rf h1 292 2).put (a := 292) (by omega) (by omega)).tr r132
          exact ih _ _ _ _ _ _ (by omega) (by omega) (ovM_ok _ _ _ o8) g132 (s.fr r1 (by omega)) (fun h2 q1 q2 => k h2 (r1.tr q1) q2)
  have in32 : ∀ (l : Int) (m : Nat) (e : Int) (l4 l5 : Option aV) (h1 : aH) (G : Int → Int), 0 ≤ l → l < Y 53 → 0 ≤ e → e + m = Y 53 → IsRg h1 G → IsSa h1 133 Y → (∀ h2 l3 l4 l5, Fr h1 h2 292 2 → IsRg h2 (hdM Y l m e G) → Rn (d + 5) bc bs mX3_shortestUnclear 22 [some (vR (some 292)), some (vR (some 133)), some (vI (l + 1)), l3, l4, l5] [] h2 n Q) → Rn (d + 5) bc bs mX3_shortestUnclear 32 [some (vR (some 292)), some (vR (some 133)), some (vI l), some (vI e), l4, l5] [] h1 n Q := by
    intro l m
    induction m with
    | zero =>
      intro e l4 l5 h1 G c0 c1 e0 e1 g s k
      have s9 := s
      have g0 := g.1
      obtain ⟨s1, s2, s3, s4, s5, s6, s7, s8⟩ := s
      refine BX3_shortestUnclear_32 (by first | assumption | exact up_at _ _ _ | (rw [up_ne (by omega)]; first | assumption | exact up_at _ _ _ | (rw [up_ne (by omega)]; assumption))) (by rfl) ?_ ?_
      · intro hc1
        first
        | (exfalso; omega)
        | (
            refine BX3_shortestUnclear_101 (by first | omega | assumption | (simp only [Ls_len]; omega) | exact Ls_get (by omega) (by omega) | rfl | decide) ?_
            exact k _ _ _ _ (Fr.rf h1 292 2) g
          )
      · intro hc2
        first
        | (exfalso; omega)
        | (
            refine BX3_shortestUnclear_40 (by first | assumption | exact up_at _ _ _ | (rw [up_ne (by omega)]; first | assumption | exact up_at _ _ _ | (rw [up_ne (by omega)]; assumption))) ?_
            refine R_X5_word (by first | omega | assumption | (simp only [Ls_len]; omega) | exact Ls_get (by omega) (by omega) | rfl | decide) (by first | omega | assumption | (simp only [Ls_len]; omega) | exact Ls_get (by omega) (by omega) | rfl | decide) (by first | omega | assumption | (simp only [Ls_len]; omega) | exact Ls_get (by omega) (by omega) | rfl | decide) (by first | omega | assumption | (simp only [Ls_len]; omega) | exact Ls_get (by omega) (by omega) | rfl | decide) ?_
            refine BX3_shortestUnclear_45  ?_ ?_
            · intro hc3
              first
              | (exfalso; omega)
              | (
                  refine BX3_shortestUnclear_69  ?_ ?_
                  · intro hc4
                    refine BX3_shortestUnclear_95 (by first | omega | assumption | (simp only [Ls_len]; omega) | exact Ls_get (by omega) (by omega) | rfl | decide) ?_
                    (exfalso; omega)
                  · intro hc5
                    exact absurd hc5 (by decide)
                )
            · intro hc6
              first
              | (exfalso; omega)
              | (
                  refine BX3_shortestUnclear_52 (by first | assumption | exact up_at _ _ _ | (rw [up_ne (by omega)]; first | assumption | exact up_at _ _ _ | (rw [up_ne (by omega)]; assumption))) ?_
                  refine R_X5_word (by first | omega | assumption | (simp only [Ls_len]; omega) | exact Ls_get (by omega) (by omega) | rfl | decide) (by first | omega | assumption | (simp only [Ls_len]; omega) | exact Ls_get (by omega) (by omega) | rfl | decide) (by first | omega | assumption | (simp only [Ls_len]; omega) | exact Ls_get (by omega) (by omega) | rfl | decide) (by first | omega | assumption | (simp only [Ls_len]; omega) | exact Ls_get (by omega) (by omega) | rfl | decide) ?_
                  refine BX3_shortestUnclear_59  ?_
                  refine R_X3_startsWith (by first | omega | assumption | (simp only [Ls_len]; omega) | exact Ls_get (by omega) (by omega) | rfl | decide) (by first | omega | assumption | (simp only [Ls_len]; omega) | exact Ls_get (by omega) (by omega) | rfl | decide) (by first | omega | assumption | (simp only [Ls_len]; omega) | exact Ls_get (by omega) (by omega) | rfl | decide) ?_
                  refine BX3_shortestUnclear_62  ?_ ?_
                  · intro hc7
                    first
                    | (exfalso; omega)
                    | (
                        refine BX3_shortestUnclear_69  ?_ ?_
                        · intro hc8
                          refine BX3_shortestUnclear_95 (by first | omega | assumption | (simp only [Ls_len]; omega) | exact Ls_get (by omega) (by omega) | rfl | decide) ?_
                          (exfalso; omega)
                        · intro hc9
                          exact absurd hc9 (by decide)
                      )
                  · intro hc10
                    first
                    | (exfalso; omega)
                    | (
                        refine BX3_shortestUnclear_65  ?_ ?_
                        · intro hc11
                          exact absurd hc11 (by decide)
                        · intro hc12
                          refine BX3_shortestUnclear_77 (by first | assumption | exact up_at _ _ _ | (rw [up_ne (by omega)]; first | assumption | exact up_at _ _ _ | (rw [up_ne (by omega)]; assumption))) ?_
                          refine R_X5_word (by first | omega | assumption | (simp only [Ls_len]; omega) | exact Ls_get (by omega) (by omega) | rfl | decide) (by first | omega | assumption | (simp only [Ls_len]; omega) | exact Ls_get (by omega) (by omega) | rfl | decide) (by first | omega | assumption | (simp only [Ls_len]; omega) | exact Ls_get (by omega) (by omega) | rfl | decide) (by first | omega | assumption | (simp only [Ls_len]; omega) | exact Ls_get (by omega) (by omega) | rfl | decide) ?_
                          refine BX3_shortestUnclear_84  ?_
                          refine R_X3_digitsOf (by first | omega | assumption | (simp only [Ls_len]; omega) | exact Ls_get (by omega) (by omega) | rfl | decide) ?_
                          refine BX3_shortestUnclear_87  ?_
                          refine R_X3_digitsOf (by first | omega | assumption | (simp only [Ls_len]; omega) | exact Ls_get (by omega) (by omega) | rfl | decide) ?_
                          refine BX3_shortestUnclear_92 (by first | assumption | exact up_at _ _ _ | (rw [up_ne (by omega)]; first | assumption | exact up_at _ _ _ | (rw [up_ne (by omega)]; assumption))) ?_
                          refine R_X3_come (by first | omega | assumption | (simp only [Ls_len]; omega) | exact Ls_get (by omega) (by omega) | rfl | decide) (by first | omega | assumption | (simp only [Ls_len]; omega) | exact Ls_get (by omega) (by omega) | rfl | decide) (by first | omega | assumption | (simp only [Ls_len]; omega) | exact Ls_get (by omega) (by omega) | rfl | decide) (by first | omega | assumption | (simp only [Ls_len]; omega) | exact Ls_get (by omega) (by omega) | rfl | decide) (by first | omega | assumption | (simp only [Ls_len]; omega) | exact Ls_get (by omega) (by omega) | rfl | decide) ?_
                          intro h92 r92 g92
                          refine BX3_shortestUnclear_95 (by first | omega | assumption | (simp only [Ls_len]; omega) | exact Ls_get (by omega) (by omega) | rfl | decide) ?_
                          (exfalso; omega)
                      )
                )
          )
    | succ m ih =>
      intro e l4 l5 h1 G c0 c1 e0 e1 g s k
      have s9 := s
      have g0 := g.1
      have y3 := y2 l (by omega) (by omega)
      have y4 := y2 e (by omega) (by omega)
      have d1 := digM_le (Y (12 + l))
      have d2 := digM_le (Y (12 + e))
      obtain ⟨s1, s2, s3, s4, s5, s6, s7, s8⟩ := s
      unfold hdM at k
      refine BX3_shortestUnclear_32 (by first | assumption | exact up_at _ _ _ | (rw [up_ne (by omega)]; first | assumption | exact up_at _ _ _ | (rw [up_ne (by omega)]; assumption))) (by rfl) ?_ ?_
      · intro hc1
        refine BX3_shortestUnclear_101 (by first | omega | assumption | (simp only [Ls_len]; omega) | exact Ls_get (by omega) (by omega) | rfl | decide) ?_
        (exfalso; omega)
      · intro hc2
        refine BX3_shortestUnclear_40 (by first | assumption | exact up_at _ _ _ | (rw [up_ne (by omega)]; first | assumption | exact up_at _ _ _ | (rw [up_ne (by omega)]; assumption))) ?_
        refine R_X5_word (by first | omega | assumption | (simp only [Ls_len]; omega) | exact Ls_get (by omega) (by omega) | rfl | decide) (by first | omega | assumption | (simp only [Ls_len]; omega) | exact Ls_get (by omega) (by omega) | rfl | decide) (by first | omega | assumption | (simp only [Ls_len]; omega) | exact Ls_get (by omega) (by omega) | rfl | decide) (by first | omega | assumption | (simp only [Ls_len]; omega) | exact Ls_get (by omega) (by omega) | rfl | decide) ?_
        refine BX3_shortestUnclear_45  ?_ ?_
        · intro hc3
          refine BX3_shortestUnclear_69  ?_ ?_
          · intro hc4
            refine BX3_shortestUnclear_95 (by first | omega | assumption | (simp only [Ls_len]; omega) | exact Ls_get (by omega) (by omega) | rfl | decide) ?_
            first
            | (exfalso; omega)
            | (rw [if_neg (by omega)] at k; exact ih _ _ _ _ _ c0 c1 (by omega) (by omega) g s9 k)
            | (rw [if_pos (by omega)] at k; exact ih _ _ _ _ _ c0 c1 (by omega) (by omega) g92 (s9.fr r92 (by omega)) (fun h2 l3 l4 l5 q1 q2 => k h2 l3 l4 l5 (r92.tr q1) q2))
          · intro hc5
            exact absurd hc5 (by decide)
        · intro hc6
          refine BX3_shortestUnclear_52 (by first | assumption | exact up_at _ _ _ | (rw [up_ne (by omega)]; first | assumption | exact up_at _ _ _ | (rw [up_ne (by omega)]; assumption))) ?_
          refine R_X5_word (by first | omega | assumption | (simp only [Ls_len]; omega) | exact Ls_get (by omega) (by omega) | rfl | decide) (by first | omega | assumption | (simp only [Ls_len]; omega) | exact Ls_get (by omega) (by omega) | rfl | decide) (by first | omega | assumption | (simp only [Ls_len]; omega) | exact Ls_get (by omega) (by omega) | rfl | decide) (by first | omega | assumption | (simp only [Ls_len]; omega) | exact Ls_get (by omega) (by omega) | rfl | decide) ?_
          refine BX3_shortestUnclear_59  ?_
          refine R_X3_startsWith (by first | omega | assumption | (simp only [Ls_len]; omega) | exact Ls_get (by omega) (by omega) | rfl | decide) (by first | omega | assumption | (simp only [Ls_len]; omega) | exact Ls_get (by omega) (by omega) | rfl | decide) (by first | omega | assumption | (simp only [Ls_len]; omega) | exact Ls_get (by omega) (by omega) | rfl | decide) ?_
          refine BX3_shortestUnclear_62  ?_ ?_
          · intro hc7
            refine BX3_shortestUnclear_69  ?_ ?_
            · intro hc8
              refine BX3_shortestUnclear_95 (by first | omega | assumption | (simp only [Ls_len]; omega) | exact Ls_get (by omega) (by omega) | rfl | decide) ?_
              first
              | (exfalso; omega)
              | (rw [if_neg (by omega)] at k; exact ih _ _ _ _ _ c0 c1 (by omega) (by omega) g s9 k)
              | (rw [if_pos (by omega)] at k; exact ih _ _ _ _ _ c0 c1 (by omega) (by omega) g92 (s9.fr r92 (by omega)) (fun h2 l3 l4 l5 q1 q2 => k h2 l3 l4 l5 (r92.tr q1) q2))
            · intro hc9
              exact absurd hc9 (by decide)
          · intro hc10
            refine BX3_shortestUnclear_65  ?_ ?_
            · intro hc11
              exact absurd hc11 (by decide)
            · intro hc12
              refine BX3_shortestUnclear_77 (by first | assumption | exact up_at _ _ _ | (rw [up_ne (by omega)]; first | assumption | exact up_at _ _ _ | (rw [up_ne (by omega)]; assumption))) ?_
              refine R_X5_word (by first | omega | assumption | (simp only [Ls_len]; omega) | exact Ls_get (by omega) (by omega) | rfl | decide) (by first | omega | assumption | (simp only [Ls_len]; omega) | exact Ls_get (by omega) (by omega) | rfl | decide) (by first | omega | assumption | (simp only [Ls_len]; omega) | exact Ls_get (by omega) (by omega) | rfl | decide) (by first | omega | assumption | (simp only [Ls_len]; omega) | exact Ls_get (by omega) (by omega) | rfl | decide) ?_
              refine BX3_shortestUnclear_84  ?_
              refine R_X3_digitsOf (by first | omega | assumption | (simp only [Ls_len]; omega) | exact Ls_get (by omega) (by omega) | rfl | decide) ?_
              refine BX3_shortestUnclear_87  ?_
              refine R_X3_digitsOf (by first | omega | assumption | (simp only [Ls_len]; omega) | exact Ls_get (by omega) (by omega) | rfl | decide) ?_
              refine BX3_shortestUnclear_92 (by first | assumption | exact up_at _ _ _ | (rw [up_ne (by omega)]; first | assumption | exact up_at _ _ _ | (rw [up_ne (by omega)]; assumption))) ?_
              refine R_X3_come (by first | omega | assumption | (simp only [Ls_len]; omega) | exact Ls_get (by omega) (by omega) | rfl | decide) (by first | omega | assumption | (simp only [Ls_len]; omega) | exact Ls_get (by omega) (by omega) | rfl | decide) (by first | omega | assumption | (simp only [Ls_len]; omega) | exact Ls_get (by omega) (by omega) | rfl | decide) (by first | omega | assumption | (simp only [Ls_len]; omega) | exact Ls_get (by omega) (by omega) | rfl | decide) (by first | omega | assumption | (simp only [Ls_len]; omega) | exact Ls_get (by omega) (by omega) | rfl | decide) ?_
              intro h92 r92 g92
              refine BX3_shortestUnclear_95 (by first | omega | assumption | (simp only [Ls_len]; omega) | exact Ls_get (by omega) (by omega) | rfl | decide) ?_
              first
              | (exfalso; omega)
              | (rw [if_neg (by omega)] at k; exact ih _ _ _ _ _ c0 c1 (by omega) (by omega) g s9 k)
              | (rw [if_pos (by omega)] at k; exact ih _ _ _ _ _ c0 c1 (by omega) (by omega) g92 (s9.fr r92 (by omega)) (fun h2 l3 l4 l5 q1 q2 => k h2 l3 l4 l5 (r92.tr q1) q2))
  have in22 : ∀ (m : Nat) (l : Int) (l3 l4 l5 : Option aV) (h1 : aH) (G : Int → Int), 0 ≤ l → l + m = Y 53 → IsRg h1 G → IsSa h1 133 Y → (∀ h2 l3 l4 l5, Fr h1 h2 292 2 → IsRg h2 (lgM Y (Y 53).toNat m l G) → Rn (d + 5) bc bs mX3_shortestUnclear 109 [some (vR (some 292)), some (vR (some 133)), some (vI 0), l3, l4, l5] [] h2 n Q) → Rn (d + 5) bc bs mX3_shortestUnclear 22 [some (vR (some 292)), some (vR (some 133)), some (vI l), l3, l4, l5] [] h1 n Q := by
    intro m
    induction m with
    | zero =>
      intro l l3 l4 l5 h1 G c0 c1 g s k
      have s9 := s
      have g0 := g.1
      obtain ⟨s1, s2, s3, s4, s5, s6, s7, s8⟩ := s
      refine BX3_shortestUnclear_22 (by first | assumption | exact up_at _ _ _ | (rw [up_ne (by omega)]; first | assumption | exact up_at _ _ _ | (rw [up_ne (by omega)]; assumption))) (by rfl) ?_ ?_
      · intro hc1
        first
        | (exfalso; omega)
        | (
            refine BX3_shortestUnclear_107  ?_
            exact k _ _ _ _ (Fr.rf h1 292 2) g
          )
      · intro hc2
        first
        | (exfalso; omega)
        | (
            refine BX3_shortestUnclear_30  ?_
            (exfalso; omega)
          )
    | succ m ih =>
      intro l l3 l4 l5 h1 G c0 c1 g s k
      have s9 := s
      have g0 := g.1
      obtain ⟨s1, s2, s3, s4, s5, s6, s7, s8⟩ := s
      refine BX3_shortestUnclear_22 (by first | assumption | exact up_at _ _ _ | (rw [up_ne (by omega)]; first | assumption | exact up_at _ _ _ | (rw [up_ne (by omega)]; assumption))) (by rfl) ?_ ?_
      · intro hc1
        first
        | (exfalso; omega)
        | (
            refine BX3_shortestUnclear_107  ?_
            (exfalso; omega)
          )
      · intro hc2
        first
        | (exfalso; omega)
        | (
            refine BX3_shortestUnclear_30  ?_
            refine in32 l (Y 53).toNat 0 _ _ _ G c0 (by omega) (by omega) (by omega) g s9 (fun h2 l3 l4 l5 q1 q2 => ?_)
            exact ih _ _ _ _ _ _ (by omega) (by omega) q2 (s9.fr q1 (by omega)) (fun h3 l3 l4 l5 p1 p2 => k h3 l3 l4 l5 (q1.tr p1) p2)
          )
  obtain ⟨n1, n2, f1, f2, f3, f4, i1, i2, i3, i4, i5⟩ := id i
  refine BX3_shortestUnclear_0 (by first | assumption | exact up_at _ _ _ | (rw [up_ne (by omega)]; first | assumption | exact up_at _ _ _ | (rw [up_ne (by omega)]; assumption))) (by rfl) ?_
  refine R_J7_fill (by first | omega | assumption | (simp only [Ls_len]; omega) | exact Ls_get (by omega) (by omega) | rfl | decide) (by first | omega | assumption | (simp only [Ls_len]; omega) | exact Ls_get (by omega) (by omega) | rfl | decide) (by first | omega | assumption | (simp only [Ls_len]; omega) | exact Ls_get (by omega) (by omega) | rfl | decide) ?_
  intro h6 r6 e6
  have z6 := (r6 292 (by decide)).trans i1
  refine BX3_shortestUnclear_9 (by first | assumption | exact up_at _ _ _ | (rw [up_ne (by omega)]; first | assumption | exact up_at _ _ _ | (rw [up_ne (by omega)]; assumption))) (by simp) ?_
  refine BX3_shortestUnclear_15 (by first | assumption | exact up_at _ _ _ | (rw [up_ne (by omega)]; first | assumption | exact up_at _ _ _ | (rw [up_ne (by omega)]; assumption))) (by simp) ?_
  refine BX3_shortestUnclear_20  ?_
  refine in22 (Y 53).toNat 0 _ _ _ _ g0M (by omega) (by omega) ⟨?_, ?_⟩ (s.fr (((r6.wd (lo2 := 292) (k2 := 2) (by decide) (by decide)).put (by decide) (by decide)).put (by decide) (by decide)) (by decide)) (fun h2 l3 l4 l5 q1 q2 => ?_)
  · rw [up_at]; rfl
  · rw [up_ne (by decide), up_ne (by decide), e6]; exact congrArg _ (Ls_ext fun x x0 x1 => by unfold g0M; rw [if_neg (by omega)])
  · have r1 := (((r6.wd (lo2 := 292) (k2 := 2) (by decide) (by decide)).put (by decide) (by decide)).put (by decide) (by decide)).tr q1
    refine in109 32 0 _ _ _ _ _ (by omega) (by omega) (lgM_ok _ _ _ (fun j j0 j1 => by unfold g0M; rw [if_neg (by omega)]; decide)) q2 (s.fr r1 (by decide)) (fun h3 p1 p2 => ?_)
    exact k h3 ((r1.tr p1).wd (by decide) (by decide)) (i.ofRg (r1.tr p1) p2)
end CLEAR
section CLEAR2
variable {d bc bs n : Nat} {g h : aH} {Q : aQ} {W V : Int → Int → Int} {X : Int → Tx} {F : Int → Int}
theorem okW.wd (o : okW W) : okWd (W 2) := by
  obtain ⟨o1, o2, o3, o4, o5⟩ := o
  exact ⟨o5.2.1.1, o5.2.1.2, fun i i0 i1 => by have := o5.2.2.2.2.2.1 i i0 i1; omega⟩
theorem P_clear {x : Int} (s : IsPo g h W V X F) (ok : okW W) (k : ∀ h1, IsPo g h1 W V X F → Q (some (vI (aClear W x))) h1 n) : Rn (d + 30) bc bs mX12_clear 0 [some (vR (some 1)), some (vI x), none] [] h n Q := by
  have yd := ok.wd
  obtain ⟨fp, p1, w, v, tp, gr, ⟨lx, la⟩, ro, ri, Gx, gl⟩ := id s; have w1 := w.1; have sh := w.2.1; have se := w.2.2.1; obtain ⟨Ts, ps, st, ste⟩ := w.2.2.2.1; have sa := w.2.2.2.2.1; have sh1 := sh.1; have se1 := se.1; have st1 := st.1; have sa1 := sa.1; obtain ⟨tl, la1⟩ := la.ob; have gl1 := gl.1; have bk0 := se.2.2; have bk1 := bk0.1
  obtain ⟨z1, z2, z3, z4, z5, z6, ri1, ri2, ri3, ri4, ri5⟩ := id ri
  unfold aClear at k
  refine BX12_clear_0  ?_
  refine R_X12_within  ?_ ?_
  · intro w1 w2
    refine BX12_clear_6  ?_ ?_
    · intro hc1
      refine BX12_clear_11 (by first | assumption | exact up_at _ _ _ | (rw [up_ne (by omega)]; first | assumption | exact up_at _ _ _ | (rw [up_ne (by omega)]; assumption))) (by rfl) (by rfl) (by first | assumption | exact up_at _ _ _ | (rw [up_ne (by omega)]; first | assumption | exact up_at _ _ _ | (rw [up_ne (by omega)]; assumption))) (by rfl) (by first | assumption | exact up_at _ _ _ | (rw [up_ne (by omega)]; first | assumption | exact up_at _ _ _ | (rw [up_ne (by omega)]; assumption))) ?_
      refine R_X3_shortestUnclear (by first | omega | assumption | (simp only [Ls_len]; omega) | exact Ls_get (by omega) (by omega) | rfl | decide) (by first | omega | assumption | (simp only [Ls_len]; omega) | exact Ls_get (by omega) (by omega) | rfl | decide) (by first | omega | assumption | (simp only [Ls_len]; omega) | exact Ls_get (by omega) (by omega) | rfl | decide) ?_
      intro h22 r22 i22
      have s22 := s.rid r22 i22
      refine BX12_clear_25  ?_ ?_
      · intro hc2
        refine BX12_clear_33  ?_ ?_
        · intro hc3
          refine BX12_clear_42  ?_
          (rw [if_pos (by omega), if_neg (by omega), if_neg (by omega)] at k; exact k _ s22)
        · intro hc4
          refine BX12_clear_38  ?_
          (rw [if_pos (by omega), if_neg (by omega), if_pos (by omega)] at k; exact k _ s22)
      · intro hc5
        refine BX12_clear_31  ?_
        (rw [if_pos (by omega), if_pos (by omega)] at k; exact k _ s22)
    · intro hc6
      exact absurd hc6 (by decide)
  · intro w3
    refine BX12_clear_6  ?_ ?_
    · intro hc7
      exact absurd hc7 (by decide)
    · intro hc8
      refine BX12_clear_9  ?_
      (rw [if_neg (by omega)] at k; exact k _ s)
end CLEAR2
