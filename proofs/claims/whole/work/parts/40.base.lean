/-! Contracts: the library's own, and the small ones that all use. -/
theorem getElem_of_lt {α : Type} {xs : List α} {i : Nat} (h : i < xs.length) : ∃ x, xs[i]? = some x := ⟨xs[i], List.getElem?_eq_getElem h⟩
theorem aCpy_take {w : List Int} {N : Nat} (h : N ≤ w.length) : aCpy w (List.replicate N 0) 0 0 N = w.take N := by
  apply List.ext_getElem?
  intro j
  unfold aCpy
  rw [List.length_replicate]
  by_cases hj : j < N
  · rw [List.getElem?_map, List.getElem?_range hj, Option.map_some, if_pos (by omega), List.getElem?_take_of_lt hj, List.getD_eq_getElem?_getD, show 0 + (j - 0) = j by omega, List.getElem?_eq_getElem (by omega)]
    rfl
  · rw [List.getElem?_eq_none (by simp; omega), List.getElem?_eq_none (by simp; omega)]
theorem aCpy_all {w u : List Int} (h : w.length = u.length) : aCpy w u 0 0 w.length = w := by
  apply List.ext_getElem?
  intro j
  unfold aCpy
  by_cases hj : j < u.length
  · rw [List.getElem?_map, List.getElem?_range hj, Option.map_some, if_pos (by omega), List.getD_eq_getElem?_getD, show 0 + (j - 0) = j by omega, List.getElem?_eq_getElem (by omega)]
    rfl
  · rw [List.getElem?_eq_none (by simp; omega), List.getElem?_eq_none (by omega)]
/-- a row of n whole numbers, told by a function -/
def Ls {α : Type} (n : Nat) (f : Int → α) : List α := (List.range n).map fun (j : Nat) => f (j : Int)
theorem Ls_len {α : Type} (n : Nat) (f : Int → α) : (Ls n f).length = n := by simp [Ls]
theorem Ls_get {α : Type} {n : Nat} {f : Int → α} {i : Int} (h0 : 0 ≤ i) (h1 : i < n) : (Ls n f)[i.toNat]? = some (f i) := by
  unfold Ls
  rw [List.getElem?_map, List.getElem?_range (by omega), Option.map_some, Int.toNat_of_nonneg h0]
theorem Ls_nat {α : Type} {n : Nat} {f : Int → α} {j : Nat} (h1 : j < n) : (Ls n f)[j]? = some (f j) := by
  unfold Ls
  rw [List.getElem?_map, List.getElem?_range h1, Option.map_some]
theorem Ls_ext {α : Type} {n : Nat} {f g : Int → α} (h : ∀ j : Int, 0 ≤ j → j < n → f j = g j) : Ls n f = Ls n g := by
  apply List.ext_getElem?
  intro j
  by_cases hj : j < n
  · rw [Ls_nat hj, Ls_nat hj, h j (by omega) (by omega)]
  · rw [List.getElem?_eq_none (by rw [Ls_len]; omega), List.getElem?_eq_none (by rw [Ls_len]; omega)]
def fset {α : Type} (f : Int → α) (i : Int) (v : α) : Int → α := fun j => if j = i then v else f j
theorem fset_at {α : Type} (f : Int → α) (i : Int) (v : α) : fset f i v i = v := by simp [fset]
theorem fset_ne {α : Type} {f : Int → α} {i : Int} {v : α} {j : Int} (h : j ≠ i) : fset f i v j = f j := by simp [fset, h]
theorem Ls_set {α : Type} {n : Nat} {f : Int → α} {i : Int} {v : α} (h0 : 0 ≤ i) : (Ls n f).set i.toNat v = Ls n (fset f i v) := by
  apply List.ext_getElem?
  intro j
  by_cases hj : j < n
  · rw [Ls_nat hj]
    by_cases q : i.toNat = j
    · rw [q, List.getElem?_set_self (by rw [Ls_len]; exact hj), show (j : Int) = i by omega, fset_at]
    · rw [List.getElem?_set_ne q, Ls_nat hj, fset_ne (by omega)]
  · rw [List.getElem?_eq_none (by rw [List.length_set, Ls_len]; omega), List.getElem?_eq_none (by rw [Ls_len]; omega)]
theorem Ls_rep {α : Type} (n : Nat) (x : α) : List.replicate n x = Ls n (fun _ => x) := by
  apply List.ext_getElem?
  intro j
  by_cases hj : j < n
  · rw [Ls_nat hj, List.getElem?_replicate, if_pos hj]
  · rw [List.getElem?_eq_none (by simp; omega), List.getElem?_eq_none (by rw [Ls_len]; omega)]
theorem Ls_cpy {n m : Nat} {f g : Int → Int} {sp dp k : Int} (h1 : 0 ≤ sp) (h2 : 0 ≤ dp) (h3 : 0 ≤ k) (h4 : sp + k ≤ n) : aCpy (Ls n f) (Ls m g) sp.toNat dp.toNat k.toNat = Ls m (fun j => if dp ≤ j ∧ j < dp + k then f (sp + (j - dp)) else g j) := by
  apply List.ext_getElem?
  intro j
  unfold aCpy
  rw [Ls_len]
  by_cases hj : j < m
  · rw [List.getElem?_map, List.getElem?_range hj, Option.map_some, Ls_nat hj]
    by_cases q : dp.toNat ≤ j ∧ j < dp.toNat + k.toNat
    · rw [if_pos q, if_pos (by omega), List.getD_eq_getElem?_getD, Ls_nat (by omega), Option.getD_some]
      congr 2
      omega
    · rw [if_neg q, if_neg (by omega), List.getD_eq_getElem?_getD, Ls_nat hj, Option.getD_some]
  · rw [List.getElem?_eq_none (by simp; omega), List.getElem?_eq_none (by rw [Ls_len]; omega)]
/-- what lies outside lo .. lo + k is as it was -/
def Fr (h h1 : aH) (lo k : Nat) : Prop := ∀ x, (x < lo ∨ lo + k ≤ x) → h1 x = h x
theorem Fr.rf (h : aH) (lo k : Nat) : Fr h h lo k := fun _ _ => rfl
theorem Fr.tr {h h1 h2 : aH} {lo k : Nat} (a : Fr h h1 lo k) (b : Fr h1 h2 lo k) : Fr h h2 lo k := fun x hx => (b x hx).trans (a x hx)
theorem Fr.wide {h h1 : aH} {lo k lo2 k2 : Nat} (f : Fr h h1 lo k) (a : lo2 ≤ lo) (b : lo + k ≤ lo2 + k2) : Fr h h1 lo2 k2 := fun x hx => f x (by omega)
section BASE
variable {d bc bs n : Nat} {h : aH} {Q : aQ}
theorem R_J9_min {x y : Int} (k : Q (some (vI (min x y))) h n) : Rn d bc bs mJ9_min_7cf53 0 [some (vI x), some (vI y)] [] h n Q := by
  refine BJ9_min_7cf53_0  ?_ ?_
  · intro hc1
    first
    | (exfalso; omega)
    | (
        refine BJ9_min_7cf53_9  ?_
        first | (rw [Int.min_eq_left (by omega)] at k; exact k) | (rw [Int.min_eq_right (by omega)] at k; exact k)
      )
  · intro hc2
    first
    | (exfalso; omega)
    | (
        refine BJ9_min_7cf53_5  ?_
        first | (rw [Int.min_eq_left (by omega)] at k; exact k) | (rw [Int.min_eq_right (by omega)] at k; exact k)
      )
theorem R_J9_max {x y : Int} (k : Q (some (vI (max x y))) h n) : Rn d bc bs mJ9_max_7cf53 0 [some (vI x), some (vI y)] [] h n Q := by
  refine BJ9_max_7cf53_0  ?_ ?_
  · intro hc1
    first
    | (exfalso; omega)
    | (
        refine BJ9_max_7cf53_9  ?_
        first | (rw [Int.max_eq_left (by omega)] at k; exact k) | (rw [Int.max_eq_right (by omega)] at k; exact k)
      )
  · intro hc2
    first
    | (exfalso; omega)
    | (
        refine BJ9_max_7cf53_5  ?_
        first | (rw [Int.max_eq_left (by omega)] at k; exact k) | (rw [Int.max_eq_right (by omega)] at k; exact k)
      )
theorem R_J9_lmin {x y : Int} (k : Q (some (vL (min x y))) h n) : Rn d bc bs mJ9_min_f86c9 0 [some (vL x), none, some (vL y), none] [] h n Q := by
  refine BJ9_min_f86c9_0  ?_ ?_
  · intro hc1
    first
    | (exfalso; omega)
    | (
        refine BJ9_min_f86c9_10  ?_
        first | (rw [Int.min_eq_left (by omega)] at k; exact k) | (rw [Int.min_eq_right (by omega)] at k; exact k)
      )
  · intro hc2
    first
    | (exfalso; omega)
    | (
        refine BJ9_min_f86c9_6  ?_
        first | (rw [Int.min_eq_left (by omega)] at k; exact k) | (rw [Int.min_eq_right (by omega)] at k; exact k)
      )
theorem R_J9_lmax {x y : Int} (k : Q (some (vL (max x y))) h n) : Rn d bc bs mJ9_max_f86c9 0 [some (vL x), none, some (vL y), none] [] h n Q := by
  refine BJ9_max_f86c9_0  ?_ ?_
  · intro hc1
    first
    | (exfalso; omega)
    | (
        refine BJ9_max_f86c9_10  ?_
        first | (rw [Int.max_eq_left (by omega)] at k; exact k) | (rw [Int.max_eq_right (by omega)] at k; exact k)
      )
  · intro hc2
    first
    | (exfalso; omega)
    | (
        refine BJ9_max_f86c9_6  ?_
        first | (rw [Int.max_eq_left (by omega)] at k; exact k) | (rw [Int.max_eq_right (by omega)] at k; exact k)
      )
theorem R_X12_within {v lo hi : Int} (kt : lo ≤ v → v ≤ hi → Q (some (vI 1)) h n) (kf : (v < lo ∨ hi < v) → Q (some (vI 0)) h n) : Rn d bc bs mX12_within 0 [some (vI v), some (vI lo), some (vI hi)] [] h n Q := by
  refine BX12_within_0  ?_ ?_
  · intro hc1
    refine BX12_within_14  ?_
    first | exact kt (by assumption) (by assumption) | exact kf (by omega)
  · intro hc2
    refine BX12_within_5  ?_ ?_
    · intro hc3
      refine BX12_within_14  ?_
      first | exact kt (by assumption) (by assumption) | exact kf (by omega)
    · intro hc4
      refine BX12_within_10  ?_
      first | exact kt (by assumption) (by assumption) | exact kf (by omega)
theorem R_X12_isPlace {v : Int} (kt : 0 ≤ v → v ≤ 9 → Q (some (vI 1)) h n) (kf : (v < 0 ∨ 9 < v) → Q (some (vI 0)) h n) : Rn (d + 1) bc bs mX12_isPlace 0 [some (vI v)] [] h n Q := by
  refine BX12_isPlace_0  ?_
  refine R_X12_within  ?_ ?_
  · intro w1 w2
    refine BX12_isPlace_7 (by first | omega | (simp only [Ls_len]; omega) | assumption | exact Ls_get (by omega) (by omega) | rfl | decide) ?_
    first | exact kt (by assumption) (by assumption) | exact kf (by omega)
  · intro w3
    refine BX12_isPlace_7 (by first | omega | (simp only [Ls_len]; omega) | assumption | exact Ls_get (by omega) (by omega) | rfl | decide) ?_
    first | exact kt (by assumption) (by assumption) | exact kf (by omega)
theorem R_X12_cell {a : Nat} {i v : Int} {w : List Int} (hh : h a = cI w) (ha : a ≠ 0) (hl : w.length < 2147483648) (h0 : 0 ≤ i) (hv : w[i.toNat]? = some v) (k : Q (some (vI v)) h n) : Rn d bc bs mX12_cell 0 [some (vR (some a)), some (vI i)] [] h n Q := by
  have h1 : i.toNat < w.length := (List.getElem?_eq_some_iff.mp hv).1
  refine BX12_cell_0  ?_ ?_
  · intro hc1
    first
    | (exfalso; omega)
    | (
        refine BX12_cell_16  ?_
        exact k
      )
  · intro hc2
    first
    | (exfalso; omega)
    | (
        refine BX12_cell_4 (by first | assumption | exact up_at _ _ _ | (rw [up_ne (by omega)]; first | assumption | exact up_at _ _ _ | (rw [up_ne (by omega)]; first | assumption | exact up_at _ _ _ | (rw [up_ne (by omega)]; first | assumption | exact up_at _ _ _ | (rw [up_ne (by omega)]; first | assumption | exact up_at _ _ _ | (rw [up_ne (by omega)]; first | assumption | exact up_at _ _ _ | (rw [up_ne (by omega)]; first | assumption | exact up_at _ _ _ | (rw [up_ne (by omega)]; first | assumption | exact up_at _ _ _ | (rw [up_ne (by omega)]; first | assumption | exact up_at _ _ _ | (rw [up_ne (by omega)]; assumption)))))))))) (by first | omega | (simp only [Ls_len]; omega) | assumption | exact Ls_get (by omega) (by omega) | rfl | decide) (by first | omega | (simp only [Ls_len]; omega) | assumption | exact Ls_get (by omega) (by omega) | rfl | decide) ?_ ?_
        · intro hc3
          first
          | (exfalso; omega)
          | (
              refine BX12_cell_16  ?_
              exact k
            )
        · intro hc4
          first
          | (exfalso; omega)
          | (
              refine BX12_cell_10 (by first | assumption | exact up_at _ _ _ | (rw [up_ne (by omega)]; first | assumption | exact up_at _ _ _ | (rw [up_ne (by omega)]; first | assumption | exact up_at _ _ _ | (rw [up_ne (by omega)]; first | assumption | exact up_at _ _ _ | (rw [up_ne (by omega)]; first | assumption | exact up_at _ _ _ | (rw [up_ne (by omega)]; first | assumption | exact up_at _ _ _ | (rw [up_ne (by omega)]; first | assumption | exact up_at _ _ _ | (rw [up_ne (by omega)]; first | assumption | exact up_at _ _ _ | (rw [up_ne (by omega)]; first | assumption | exact up_at _ _ _ | (rw [up_ne (by omega)]; assumption)))))))))) (by first | omega | (simp only [Ls_len]; omega) | assumption | exact Ls_get (by omega) (by omega) | rfl | decide) (by first | exact Ls_get (by omega) (by omega) | assumption) ?_
              exact k
            )
      )
theorem R_X12_setCell {a : Nat} {i v : Int} {w : List Int} (hh : h a = cI w) (ha : a ≠ 0) (hl : w.length < 2147483648) (h0 : 0 ≤ i) (h1 : i < w.length) (k : Q none (up h a (cI (w.set i.toNat v))) n) : Rn d bc bs mX12_setCell 0 [some (vR (some a)), some (vI i), some (vI v)] [] h n Q := by
  refine BX12_setCell_0  ?_ ?_
  · intro hc1
    first
    | (exfalso; omega)
    | (
        refine BX12_setCell_14  ?_
        exact k
      )
  · intro hc2
    first
    | (exfalso; omega)
    | (
        refine BX12_setCell_4 (by first | assumption | exact up_at _ _ _ | (rw [up_ne (by omega)]; first | assumption | exact up_at _ _ _ | (rw [up_ne (by omega)]; first | assumption | exact up_at _ _ _ | (rw [up_ne (by omega)]; first | assumption | exact up_at _ _ _ | (rw [up_ne (by omega)]; first | assumption | exact up_at _ _ _ | (rw [up_ne (by omega)]; first | assumption | exact up_at _ _ _ | (rw [up_ne (by omega)]; first | assumption | exact up_at _ _ _ | (rw [up_ne (by omega)]; first | assumption | exact up_at _ _ _ | (rw [up_ne (by omega)]; first | assumption | exact up_at _ _ _ | (rw [up_ne (by omega)]; assumption)))))))))) (by first | omega | (simp only [Ls_len]; omega) | assumption | exact Ls_get (by omega) (by omega) | rfl | decide) (by first | omega | (simp only [Ls_len]; omega) | assumption | exact Ls_get (by omega) (by omega) | rfl | decide) ?_ ?_
        · intro hc3
          first
          | (exfalso; omega)
          | (
              refine BX12_setCell_14  ?_
              exact k
            )
        · intro hc4
          first
          | (exfalso; omega)
          | (
              refine BX12_setCell_10 (by first | assumption | exact up_at _ _ _ | (rw [up_ne (by omega)]; first | assumption | exact up_at _ _ _ | (rw [up_ne (by omega)]; first | assumption | exact up_at _ _ _ | (rw [up_ne (by omega)]; first | assumption | exact up_at _ _ _ | (rw [up_ne (by omega)]; first | assumption | exact up_at _ _ _ | (rw [up_ne (by omega)]; first | assumption | exact up_at _ _ _ | (rw [up_ne (by omega)]; first | assumption | exact up_at _ _ _ | (rw [up_ne (by omega)]; first | assumption | exact up_at _ _ _ | (rw [up_ne (by omega)]; first | assumption | exact up_at _ _ _ | (rw [up_ne (by omega)]; assumption)))))))))) (by first | omega | (simp only [Ls_len]; omega) | assumption | exact Ls_get (by omega) (by omega) | rfl | decide) (by first | omega | (simp only [Ls_len]; omega) | assumption | exact Ls_get (by omega) (by omega) | rfl | decide) (by first | omega | (simp only [Ls_len]; omega) | assumption | exact Ls_get (by omega) (by omega) | rfl | decide) ?_
              try rw [Ls_set (by omega)]
              refine BX12_setCell_14  ?_
              exact k
            )
      )
theorem R_X12_copyRow {a b : Nat} {w u : List Int} (hh : h a = cI w) (hu : h b = cI u) (ha : a ≠ 0) (hb : b ≠ 0) (hl : w.length < 2147483648) (he : u.length = w.length) (k : Q none (up h b (cI w)) n) : Rn (d + 1) bc bs mX12_copyRow 0 [some (vR (some a)), some (vR (some b))] [] h n Q := by
  have he2 : u.length < 2147483648 := by omega
  have hm : min (w.length : Int) u.length = w.length := by rw [he]; exact Int.min_self _
  refine BX12_copyRow_0 (by first | assumption | exact up_at _ _ _ | (rw [up_ne (by omega)]; first | assumption | exact up_at _ _ _ | (rw [up_ne (by omega)]; first | assumption | exact up_at _ _ _ | (rw [up_ne (by omega)]; first | assumption | exact up_at _ _ _ | (rw [up_ne (by omega)]; first | assumption | exact up_at _ _ _ | (rw [up_ne (by omega)]; first | assumption | exact up_at _ _ _ | (rw [up_ne (by omega)]; first | assumption | exact up_at _ _ _ | (rw [up_ne (by omega)]; first | assumption | exact up_at _ _ _ | (rw [up_ne (by omega)]; first | assumption | exact up_at _ _ _ | (rw [up_ne (by omega)]; assumption)))))))))) (by first | omega | (simp only [Ls_len]; omega) | assumption | exact Ls_get (by omega) (by omega) | rfl | decide) (by first | omega | (simp only [Ls_len]; omega) | assumption | exact Ls_get (by omega) (by omega) | rfl | decide) (by first | assumption | exact up_at _ _ _ | (rw [up_ne (by omega)]; first | assumption | exact up_at _ _ _ | (rw [up_ne (by omega)]; first | assumption | exact up_at _ _ _ | (rw [up_ne (by omega)]; first | assumption | exact up_at _ _ _ | (rw [up_ne (by omega)]; first | assumption | exact up_at _ _ _ | (rw [up_ne (by omega)]; first | assumption | exact up_at _ _ _ | (rw [up_ne (by omega)]; first | assumption | exact up_at _ _ _ | (rw [up_ne (by omega)]; first | assumption | exact up_at _ _ _ | (rw [up_ne (by omega)]; first | assumption | exact up_at _ _ _ | (rw [up_ne (by omega)]; assumption)))))))))) (by first | omega | (simp only [Ls_len]; omega) | assumption | exact Ls_get (by omega) (by omega) | rfl | decide) (by first | omega | (simp only [Ls_len]; omega) | assumption | exact Ls_get (by omega) (by omega) | rfl | decide) ?_
  refine R_J9_min  ?_
  rw [hm]
  refine BX12_copyRow_11 (by first | assumption | exact up_at _ _ _ | (rw [up_ne (by omega)]; first | assumption | exact up_at _ _ _ | (rw [up_ne (by omega)]; first | assumption | exact up_at _ _ _ | (rw [up_ne (by omega)]; first | assumption | exact up_at _ _ _ | (rw [up_ne (by omega)]; first | assumption | exact up_at _ _ _ | (rw [up_ne (by omega)]; first | assumption | exact up_at _ _ _ | (rw [up_ne (by omega)]; first | assumption | exact up_at _ _ _ | (rw [up_ne (by omega)]; first | assumption | exact up_at _ _ _ | (rw [up_ne (by omega)]; first | assumption | exact up_at _ _ _ | (rw [up_ne (by omega)]; assumption)))))))))) (by first | assumption | exact up_at _ _ _ | (rw [up_ne (by omega)]; first | assumption | exact up_at _ _ _ | (rw [up_ne (by omega)]; first | assumption | exact up_at _ _ _ | (rw [up_ne (by omega)]; first | assumption | exact up_at _ _ _ | (rw [up_ne (by omega)]; first | assumption | exact up_at _ _ _ | (rw [up_ne (by omega)]; first | assumption | exact up_at _ _ _ | (rw [up_ne (by omega)]; first | assumption | exact up_at _ _ _ | (rw [up_ne (by omega)]; first | assumption | exact up_at _ _ _ | (rw [up_ne (by omega)]; first | assumption | exact up_at _ _ _ | (rw [up_ne (by omega)]; assumption)))))))))) (by first | omega | (simp only [Ls_len]; omega) | assumption | exact Ls_get (by omega) (by omega) | rfl | decide) (by first | omega | (simp only [Ls_len]; omega) | assumption | exact Ls_get (by omega) (by omega) | rfl | decide) (by first | omega | (simp only [Ls_len]; omega) | assumption | exact Ls_get (by omega) (by omega) | rfl | decide) (by first | omega | (simp only [Ls_len]; omega) | assumption | exact Ls_get (by omega) (by omega) | rfl | decide) (by first | omega | (simp only [Ls_len]; omega) | assumption | exact Ls_get (by omega) (by omega) | rfl | decide) (by first | omega | (simp only [Ls_len]; omega) | assumption | exact Ls_get (by omega) (by omega) | rfl | decide) (by first | omega | (simp only [Ls_len]; omega) | assumption | exact Ls_get (by omega) (by omega) | rfl | decide) ?_
  refine BX12_copyRow_14  ?_
  (have e9 : aCpy w u (Int.toNat 0) (Int.toNat 0) w.length = w := aCpy_all he.symm; rw [show ((w.length : Int)).toNat = w.length from rfl, e9]; exact k)
end BASE
