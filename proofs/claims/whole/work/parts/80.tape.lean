/-! The text's own methods; the tape. -/
theorem words_len : aWordsL.length = 129 := by decide +kernel
theorem words_and : ∀ k : Fin 129, and32 (aWordsL.getD k 0) 255 = aWordsL.getD k 0 := by decide +kernel
def wch (i : Int) : Int := aWordsL.getD i.toNat 0
section TEXT
variable {d bc bs n : Nat} {h : aH} {Q : aQ}
theorem R_J0_coder (k : Q (some (vI 0)) h n) : Rn d bc bs mJ0_coder_7d493 0 [some vT] [] h n Q := by
  refine BJ0_coder_7d493_0  ?_ ?_
  · intro hc1
    exact absurd hc1 (by decide)
  · intro hc2
    refine BJ0_coder_7d493_6  ?_
    first | exact k | (exfalso; omega)
theorem R_J0_length (k : Q (some (vI 129)) h n) : Rn (d + 1) bc bs mJ0_length_8abf5 0 [some vT] [] h n Q := by
  have e : shr32 129 0 = 129 := by decide +kernel
  refine BJ0_length_8abf5_0  ?_
  refine R_J0_coder  ?_
  refine BJ0_length_8abf5_9  ?_
  (rw [e]; exact k)
theorem R_J0_isLatin1 (k : Q (some (vI 1)) h n) : Rn d bc bs mJ0_isLatin1_aae02 0 [some vT] [] h n Q := by
  refine BJ0_isLatin1_aae02_0  ?_ ?_
  · intro hc1
    exact absurd hc1 (by decide)
  · intro hc2
    refine BJ0_isLatin1_aae02_6  ?_ ?_
    · intro hc3
      exact absurd hc3 (by decide)
    · intro hc4
      refine BJ0_isLatin1_aae02_13  ?_
      first | exact k | (exfalso; omega)
theorem R_J3_checkIndex {x y : Int} (x0 : 0 ≤ x) (x1 : x < y) (k : Q (some (vI x)) h n) : Rn d bc bs mJ3_checkIndex_8e157 0 [some (vI x), some (vI y), some vO] [] h n Q := by
  refine BJ3_checkIndex_8e157_0  ?_ ?_
  · intro hc1
    first
    | (exfalso; omega)
    | (
        (exfalso; omega)
      )
  · intro hc2
    first
    | (exfalso; omega)
    | (
        refine BJ3_checkIndex_8e157_4  ?_ ?_
        · intro hc3
          first
          | (exfalso; omega)
          | (
              refine BJ3_checkIndex_8e157_16  ?_
              exact k
            )
        · intro hc4
          first
          | (exfalso; omega)
          | (
              (exfalso; omega)
            )
      )
theorem R_J0_checkIndex {x y : Int} (x0 : 0 ≤ x) (x1 : x < y) (k : Q none h n) : Rn (d + 1) bc bs mJ0_checkIndex_df160 0 [some (vI x), some (vI y)] [] h n Q := by
  refine BJ0_checkIndex_df160_0  ?_
  refine R_J3_checkIndex (by first | omega | assumption | (simp only [Ls_len]; omega) | exact Ls_get (by omega) (by omega) | rfl | decide) (by first | omega | assumption | (simp only [Ls_len]; omega) | exact Ls_get (by omega) (by omega) | rfl | decide) ?_
  refine BJ0_checkIndex_df160_8  ?_
  exact k
theorem R_J1_charAt {x : Int} (x0 : 0 ≤ x) (x1 : x < 129) (k : Q (some (vI (wch x))) h n) : Rn (d + 2) bc bs mJ1_charAt_3b067 0 [some vB, some (vI x)] [] h n Q := by
  have e := words_and ⟨x.toNat, by omega⟩
  dsimp only at e
  have g1 : aWordsL[x.toNat]? = some (wch x) := by unfold wch; rw [List.getD_eq_getElem?_getD, List.getElem?_eq_getElem (by rw [words_len]; omega)]; rfl
  have b := aWords_at ⟨x.toNat, by omega⟩
  dsimp only at b
  have b1 : 0 ≤ wch x ∧ wch x < 128 := b.2
  have e2 : and32 (wch x) 255 = wch x := e
  refine BJ1_charAt_3b067_0  ?_
  refine R_J0_checkIndex (by first | omega | assumption | (simp only [Ls_len]; omega) | exact Ls_get (by omega) (by omega) | rfl | decide) (by first | omega | assumption | (simp only [Ls_len]; omega) | exact Ls_get (by omega) (by omega) | rfl | decide) ?_
  refine BJ1_charAt_3b067_6 (by first | omega | assumption | (simp only [Ls_len]; omega) | exact Ls_get (by omega) (by omega) | rfl | decide) (by first | exact Ls_get (by omega) (by omega) | assumption) (by first | omega | assumption | (simp only [Ls_len]; omega) | exact Ls_get (by omega) (by omega) | rfl | decide) (by first | omega | assumption | (simp only [Ls_len]; omega) | exact Ls_get (by omega) (by omega) | rfl | decide) ?_
  (rw [e2]; exact k)
theorem R_J0_charAt {x : Int} (x0 : 0 ≤ x) (x1 : x < 129) (k : Q (some (vI (wch x))) h n) : Rn (d + 3) bc bs mJ0_charAt_5068e 0 [some vT, some (vI x)] [] h n Q := by
  have b := aWords_at ⟨x.toNat, by omega⟩
  dsimp only at b
  have b1 : 0 ≤ wch x ∧ wch x < 128 := b.2
  refine BJ0_charAt_5068e_0  ?_
  refine R_J0_isLatin1  ?_
  refine BJ0_charAt_5068e_4  ?_ ?_
  · intro hc1
    exact absurd hc1 (by decide)
  · intro hc2
    refine BJ0_charAt_5068e_7  ?_
    refine R_J1_charAt (by first | omega | assumption | (simp only [Ls_len]; omega) | exact Ls_get (by omega) (by omega) | rfl | decide) (by first | omega | assumption | (simp only [Ls_len]; omega) | exact Ls_get (by omega) (by omega) | rfl | decide) ?_
    refine BJ0_charAt_5068e_15 (by first | omega | assumption | (simp only [Ls_len]; omega) | exact Ls_get (by omega) (by omega) | rfl | decide) (by first | omega | assumption | (simp only [Ls_len]; omega) | exact Ls_get (by omega) (by omega) | rfl | decide) ?_
    exact k
end TEXT
def IsTk (h : aH) (F : Int → Int) (k s v p : Int) : Prop := h 282 = cO 9 [vR (some 283), vI (F 2), vI k, vI s, vI v, vI p] ∧ h 283 = cI (Ls 300 (off 3 F))
theorem IsTk.fr {h h1 : aH} {F : Int → Int} {k s v p : Int} {lo m : Nat} (e : IsTk h F k s v p) (f : Fr h h1 lo m) (hd : 284 ≤ lo ∨ lo + m ≤ 282) : IsTk h1 F k s v p := ⟨by rw [f _ (by omega)]; exact e.1, by rw [f _ (by omega)]; exact e.2⟩
theorem IsTk.st {h : aH} {F : Int → Int} {k s v p k2 s2 v2 p2 : Int} (e : IsTk h F k s v p) : IsTk (up h 282 (cO 9 [vR (some 283), vI (F 2), vI k2, vI s2, vI v2, vI p2])) F k2 s2 v2 p2 := ⟨up_at _ _ _, (up_ne (by decide)).trans e.2⟩
theorem IsTk.is {h : aH} {F : Int → Int} {k s v p : Int} (e : IsTk h F k s v p) : IsTp h F := ⟨k, s, v, p, e.1, e.2⟩
def byA (F : Int → Int) (i : Int) : Int := if 0 ≤ i ∧ i < F 2 then F (3 + i) else -1
def okF (F : Int → Int) : Prop := (0 ≤ F 2 ∧ F 2 ≤ 300) ∧ ∀ i, 0 ≤ i → i < F 2 → 0 ≤ F (3 + i) ∧ F (3 + i) ≤ 255
theorem byA_in {F : Int → Int} (o : okF F) (i : Int) : -1 ≤ byA F i ∧ byA F i ≤ 255 := by
  unfold byA
  split
  · have := o.2 i (by omega) (by omega); omega
  · omega
def digB (c : Int) : Bool := decide (48 ≤ c ∧ c ≤ 57)
def letB (c : Int) : Bool := decide ((97 ≤ c ∧ c ≤ 122) ∨ (65 ≤ c ∧ c ≤ 90))
section TAPE
variable {d bc bs n : Nat} {h : aH} {Q : aQ} {F : Int → Int} {k s v p : Int}
theorem R_X9_byteAt {i : Int} (e : IsTk h F k s v p) (o : okF F) (kk : Q (some (vI (byA F i))) h n) : Rn d bc bs mX9_byteAt 0 [some (vR (some 282)), some (vI i)] [] h n Q := by
  obtain ⟨e1, e2⟩ := e
  have o1 := o.1
  have l1 := Ls_len 300 (off 3 F)
  unfold byA at kk
  refine BX9_byteAt_0  ?_ ?_
  · intro hc1
    first
    | (exfalso; omega)
    | (
        refine BX9_byteAt_30  ?_
        first | (rw [if_pos (by omega)] at kk; exact kk) | (rw [if_neg (by omega)] at kk; exact kk)
      )
  · intro hc2
    first
    | (exfalso; omega)
    | (
        refine BX9_byteAt_4 (by first | assumption | exact up_at _ _ _ | (rw [up_ne (by omega)]; first | assumption | exact up_at _ _ _ | (rw [up_ne (by omega)]; first | assumption | exact up_at _ _ _ | (rw [up_ne (by omega)]; assumption)))) (by rfl) ?_ ?_
        · intro hc3
          first
          | (exfalso; omega)
          | (
              refine BX9_byteAt_30  ?_
              first | (rw [if_pos (by omega)] at kk; exact kk) | (rw [if_neg (by omega)] at kk; exact kk)
            )
        · intro hc4
          first
          | (exfalso; omega)
          | (
              refine BX9_byteAt_12 (by first | assumption | exact up_at _ _ _ | (rw [up_ne (by omega)]; first | assumption | exact up_at _ _ _ | (rw [up_ne (by omega)]; first | assumption | exact up_at _ _ _ | (rw [up_ne (by omega)]; assumption)))) (by rfl) (by first | assumption | exact up_at _ _ _ | (rw [up_ne (by omega)]; first | assumption | exact up_at _ _ _ | (rw [up_ne (by omega)]; first | assumption | exact up_at _ _ _ | (rw [up_ne (by omega)]; assumption)))) (by first | omega | assumption | (simp only [Ls_len]; omega) | exact Ls_get (by omega) (by omega) | rfl | decide) (by first | omega | assumption | (simp only [Ls_len]; omega) | exact Ls_get (by omega) (by omega) | rfl | decide) ?_ ?_
              · intro hc5
                first
                | (exfalso; omega)
                | (
                    refine BX9_byteAt_30  ?_
                    first | (rw [if_pos (by omega)] at kk; exact kk) | (rw [if_neg (by omega)] at kk; exact kk)
                  )
              · intro hc6
                first
                | (exfalso; omega)
                | (
                    refine BX9_byteAt_21 (by first | assumption | exact up_at _ _ _ | (rw [up_ne (by omega)]; first | assumption | exact up_at _ _ _ | (rw [up_ne (by omega)]; first | assumption | exact up_at _ _ _ | (rw [up_ne (by omega)]; assumption)))) (by rfl) (by first | assumption | exact up_at _ _ _ | (rw [up_ne (by omega)]; first | assumption | exact up_at _ _ _ | (rw [up_ne (by omega)]; first | assumption | exact up_at _ _ _ | (rw [up_ne (by omega)]; assumption)))) (by first | omega | assumption | (simp only [Ls_len]; omega) | exact Ls_get (by omega) (by omega) | rfl | decide) (by first | exact Ls_get (by omega) (by omega) | assumption) ?_
                    first | (rw [if_pos (by omega)] at kk; exact kk) | (rw [if_neg (by omega)] at kk; exact kk)
                  )
            )
      )
theorem R_X9_isDigit {c : Int} (kt : digB c = true → Q (some (vI 1)) h n) (kf : digB c = false → Q (some (vI 0)) h n) : Rn d bc bs mX9_isDigit 0 [some (vI c)] [] h n Q := by
  refine BX9_isDigit_0  ?_ ?_
  · intro hc1
    first
    | (exfalso; omega)
    | (
        refine BX9_isDigit_16  ?_
        first | exact kt (decide_eq_true (by omega)) | exact kf (decide_eq_false (by omega))
      )
  · intro hc2
    first
    | (exfalso; omega)
    | (
        refine BX9_isDigit_6  ?_ ?_
        · intro hc3
          first
          | (exfalso; omega)
          | (
              refine BX9_isDigit_16  ?_
              first | exact kt (decide_eq_true (by omega)) | exact kf (decide_eq_false (by omega))
            )
        · intro hc4
          first
          | (exfalso; omega)
          | (
              refine BX9_isDigit_12  ?_
              first | exact kt (decide_eq_true (by omega)) | exact kf (decide_eq_false (by omega))
            )
      )
theorem R_X9_isLetter {c : Int} (kt : letB c = true → Q (some (vI 1)) h n) (kf : letB c = false → Q (some (vI 0)) h n) : Rn d bc bs mX9_isLetter 0 [some (vI c)] [] h n Q := by
  refine BX9_isLetter_0  ?_ ?_
  · intro hc1
    refine BX9_isLetter_12  ?_ ?_
    · intro hc2
      refine BX9_isLetter_28  ?_
      first | exact kt (decide_eq_true (by omega)) | exact kf (decide_eq_false (by omega))
    · intro hc3
      refine BX9_isLetter_18  ?_ ?_
      · intro hc4
        refine BX9_isLetter_28  ?_
        first | exact kt (decide_eq_true (by omega)) | exact kf (decide_eq_false (by omega))
      · intro hc5
        refine BX9_isLetter_24  ?_
        first | exact kt (decide_eq_true (by omega)) | exact kf (decide_eq_false (by omega))
  · intro hc6
    refine BX9_isLetter_6  ?_ ?_
    · intro hc7
      refine BX9_isLetter_24  ?_
      first | exact kt (decide_eq_true (by omega)) | exact kf (decide_eq_false (by omega))
    · intro hc8
      refine BX9_isLetter_12  ?_ ?_
      · intro hc9
        refine BX9_isLetter_28  ?_
        first | exact kt (decide_eq_true (by omega)) | exact kf (decide_eq_false (by omega))
      · intro hc10
        refine BX9_isLetter_18  ?_ ?_
        · intro hc11
          refine BX9_isLetter_28  ?_
          first | exact kt (decide_eq_true (by omega)) | exact kf (decide_eq_false (by omega))
        · intro hc12
          refine BX9_isLetter_24  ?_
          first | exact kt (decide_eq_true (by omega)) | exact kf (decide_eq_false (by omega))
end TAPE
def byM (v k : Int) : Int := and32 (shr32 v k) 255
def putB (F : Int → Int) (b : Int) : Int → Int := fset (fset F (3 + F 2) b) 2 (F 2 + 1)
def fourM (F : Int → Int) (v : Int) : Int → Int := putB (putB (putB (putB F (byM v 24)) (byM v 16)) (byM v 8)) (byM v 0)
theorem and255 (x : Int) : 0 ≤ and32 x 255 ∧ and32 x 255 ≤ 255 := by
  have e : (Int32.ofInt x &&& Int32.ofInt 255).toBitVec.toNat = (Int32.ofInt x).toBitVec.toNat &&& 255 := by
    rw [Int32.toBitVec_and, BitVec.toNat_and]
    rfl
  have l : (Int32.ofInt x).toBitVec.toNat &&& 255 ≤ 255 := Nat.and_le_right
  unfold and32
  rw [int_of_bv (by rw [e]; omega), e]
  omega
theorem putB_ok {F : Int → Int} {b : Int} (o : okF F) (h : F 2 < 300) (b0 : 0 ≤ b) (b1 : b ≤ 255) : okF (putB F b) := by
  have e2 : putB F b 2 = F 2 + 1 := fset_at _ _ _
  refine ⟨by rw [e2]; have := o.1; omega, fun i i0 i1 => ?_⟩
  rw [e2] at i1
  unfold putB
  rw [fset_ne (by omega)]
  by_cases q : i = F 2
  · subst q; rw [fset_at]; omega
  · rw [fset_ne (by omega)]; exact o.2 i i0 (by omega)
def aFeed (F : Int → Int) : Int := if F 2 + 20 ≤ 300 then F 2 + 20 else -1
def sFeed (F : Int → Int) (a b c dd e : Int) : Int → Int := if F 2 + 20 ≤ 300 then fourM (fourM (fourM (fourM (fourM F a) b) c) dd) e else F
theorem fourM_2 (F : Int → Int) (v : Int) : fourM F v 2 = F 2 + 4 := by
  have e : ∀ (F : Int → Int) (b : Int), putB F b 2 = F 2 + 1 := fun F b => fset_at _ _ _
  unfold fourM
  rw [e, e, e, e]
  omega
section FEED
variable {d bc bs n : Nat} {g h : aH} {Q : aQ} {W V : Int → Int → Int} {X : Int → Tx} {F : Int → Int} {k s v p : Int}
theorem IsTk.put {b : Int} (e : IsTk h F k s v p) (h0 : 0 ≤ F 2) (h1 : F 2 < 300) : IsTk (up (up h 283 (cI (Ls 300 (fset (off 3 F) (F 2) b)))) 282 (cO 9 [vR (some 283), vI (F 2 + 1), vI k, vI s, vI v, vI p])) (putB F b) k s v p := by
  refine ⟨?_, ?_⟩
  · rw [up_at, putB, fset_at]
  · rw [up_ne (by decide), up_at]
    refine congrArg cI (Ls_ext fun j j0 j1 => ?_)
    unfold off putB
    rw [fset_ne (show 3 + j ≠ 2 by omega)]
    by_cases q : j = F 2
    · subst q; rw [fset_at, fset_at]
    · rw [fset_ne q, fset_ne (by omega)]
theorem R_X9_addFour {x : Int} (e : IsTk h F k s v p) (h0 : 0 ≤ F 2) (h1 : F 2 + 4 ≤ 300) (kk : ∀ h1, Fr h h1 282 2 → IsTk h1 (fourM F x) k s v p → Q none h1 n) : Rn (d + 1) bc bs mX9_addFour 0 [some (vR (some 282)), some (vI x), none] [] h n Q := by
  have step : ∀ (h1 : aH) (F : Int → Int) (t : Int), IsTk h1 F k s v p → 0 ≤ F 2 → F 2 < 300 → 0 ≤ t → t ≤ 24 → Fr h h1 282 2 → (∀ h2, Fr h h2 282 2 → IsTk h2 (putB F (byM x t)) k s v p → Rn (d + 1) bc bs mX9_addFour 3 [some (vR (some 282)), some (vI x), some (vI (t + -8))] [] h2 n Q) → Rn (d + 1) bc bs mX9_addFour 3 [some (vR (some 282)), some (vI x), some (vI t)] [] h1 n Q := by
    intro h1 F t e h0 h2 t0 t1 f K
    obtain ⟨e1, e2⟩ := id e
    have l1 := Ls_len 300 (off 3 F)
    refine BX9_addFour_3  ?_ ?_
    · intro hc1
      first
      | (exfalso; omega)
      | (
          (exfalso; omega)
        )
    · intro hc2
      first
      | (exfalso; omega)
      | (
          refine BX9_addFour_7 (by first | assumption | exact up_at _ _ _ | (rw [up_ne (by omega)]; first | assumption | exact up_at _ _ _ | (rw [up_ne (by omega)]; first | assumption | exact up_at _ _ _ | (rw [up_ne (by omega)]; assumption)))) (by rfl) (by rfl) ?_
          refine R_X12_setCell (by first | omega | assumption | (simp only [Ls_len]; omega) | exact Ls_get (by omega) (by omega) | rfl | decide) (by first | omega | assumption | (simp only [Ls_len]; omega) | exact Ls_get (by omega) (by omega) | rfl | decide) (by first | omega | assumption | (simp only [Ls_len]; omega) | exact Ls_get (by omega) (by omega) | rfl | decide) (by first | omega | assumption | (simp only [Ls_len]; omega) | exact Ls_get (by omega) (by omega) | rfl | decide) (by first | omega | assumption | (simp only [Ls_len]; omega) | exact Ls_get (by omega) (by omega) | rfl | decide) ?_
          rw [Ls_set h0]
          have e3 : up h1 283 (cI (Ls 300 (fset (off 3 F) (F 2) (and32 (shr32 x t) 255)))) 282 = _ := (up_ne (by decide)).trans e1
          refine BX9_addFour_25 (by first | assumption | exact up_at _ _ _ | (rw [up_ne (by omega)]; first | assumption | exact up_at _ _ _ | (rw [up_ne (by omega)]; first | assumption | exact up_at _ _ _ | (rw [up_ne (by omega)]; assumption)))) (by rfl) (by first | omega | assumption | (simp only [Ls_len]; omega) | exact Ls_get (by omega) (by omega) | rfl | decide) (by simp) ?_
          refine BX9_addFour_35 (by first | omega | assumption | (simp only [Ls_len]; omega) | exact Ls_get (by omega) (by omega) | rfl | decide) ?_
          exact K _ ((f.put (by decide) (by decide)).put (by decide) (by decide)) (e.put h0 h2)
        )
  have e4 : ∀ (F : Int → Int) (b : Int), putB F b 2 = F 2 + 1 := fun F b => fset_at _ _ _
  refine BX9_addFour_0  ?_
  refine step h F 24 e h0 (by omega) (by decide) (by decide) (Fr.rf _ _ _) fun h2 f2 e2 => ?_
  refine step h2 _ 16 e2 (by rw [e4]; omega) (by rw [e4]; omega) (by decide) (by decide) f2 fun h3 f3 e3 => ?_
  refine step h3 _ 8 e3 (by rw [e4, e4]; omega) (by rw [e4, e4]; omega) (by decide) (by decide) f3 fun h5 f5 e5 => ?_
  refine step h5 _ 0 e5 (by rw [e4, e4, e4]; omega) (by rw [e4, e4, e4]; omega) (by decide) (by decide) f5 fun h6 f6 e6 => ?_
  refine BX9_addFour_3 ?_ ?_
  · intro _
    refine BX9_addFour_41 ?_
    exact kk _ f6 e6
  · intro q
    exfalso; omega
end FEED
