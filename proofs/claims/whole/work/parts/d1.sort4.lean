/-! Sorters: both searches find the same. -/
section SORT4
variable {Y : Int → Int} {c : Int}
theorem xL_some {nx : (Int → Int) → Option (Int → Int)} {l : Int} {A r : Int → Int} : ∀ (m : Nat) (v : Int), xL nx Y l m v A = some r → ∃ v', v ≤ v' ∧ v' < v + m ∧ mayM Y l v' A l.toNat 0 ≠ 0 ∧ nx (fset A l v') = some r := by
  intro m
  induction m with
  | zero => intro v h; cases h
  | succ m ih =>
    intro v h
    unfold xL at h
    split at h
    · obtain ⟨v', a, b, q⟩ := ih _ h
      exact ⟨v', by omega, by omega, q⟩
    · rename_i hm
      cases hn : nx (fset A l v) with
      | some r2 =>
        rw [hn] at h
        cases h
        exact ⟨v, by omega, by omega, hm, hn⟩
      | none =>
        rw [hn] at h
        obtain ⟨v', a, b, q⟩ := ih _ h
        exact ⟨v', by omega, by omega, q⟩
theorem xL_ne {nx : (Int → Int) → Option (Int → Int)} {l v' : Int} {A : Int → Int} (hm : mayM Y l v' A l.toNat 0 ≠ 0) (hn : nx (fset A l v') ≠ none) : ∀ (m : Nat) (v : Int), v ≤ v' → v' < v + m → xL nx Y l m v A ≠ none := by
  intro m
  induction m with
  | zero => intro v a b; omega
  | succ m ih =>
    intro v a b
    unfold xL
    by_cases q : v = v'
    · subst q
      rw [if_neg hm]
      cases h : nx (fset A l v) with
      | some r => intro z; cases z
      | none => exact absurd h hn
    · split
      · exact ih _ (by omega) (by omega)
      · split
        · intro z; cases z
        · exact ih _ (by omega) (by omega)
def solM (Y : Int → Int) (c : Int) (f : Nat) (l : Int) (B A : Int → Int) : Prop := (∀ j, 0 ≤ j → j < l → A j = B j) ∧ ∀ j, l ≤ j → j < l + f → 0 ≤ A j ∧ A j < c ∧ mayM Y j (A j) A j.toNat 0 = 1
theorem xS_sol (c0 : 0 ≤ c) : ∀ (f : Nat) (l : Int) (B r : Int → Int), 0 ≤ l → xS Y c f l B = some r → solM Y c f l B r := by
  intro f
  induction f with
  | zero => intro l B r l0 h; cases h; exact ⟨fun _ _ _ => rfl, fun j a b => by omega⟩
  | succ f ih =>
    intro l B r l0 h
    obtain ⟨v, v0, v1, hm, hn⟩ := xL_some _ _ h
    obtain ⟨s1, s2⟩ := ih _ _ _ (by omega) hn
    have rl : r l = v := (s1 l l0 (by omega)).trans (fset_at _ _ _)
    have rb : ∀ j, 0 ≤ j → j < l → r j = B j := fun j j0 j1 => (s1 j j0 (by omega)).trans (fset_ne (by omega))
    refine ⟨rb, fun j j0 j1 => ?_⟩
    by_cases q : j = l
    · subst q
      have e : mayM Y j (r j) r j.toNat 0 = mayM Y j v B j.toNat 0 := by rw [rl]; exact mayM_ext _ _ (fun u u0 u1 => rb u u0 (by omega))
      have m01 := mayM_01 (Y := Y) (A := B) (l := j) (v := v) j.toNat 0
      exact ⟨by omega, by omega, by omega⟩
    · exact s2 j (by omega) (by omega)
theorem sol_xS (c0 : 0 ≤ c) : ∀ (f : Nat) (l : Int) (B A : Int → Int), 0 ≤ l → solM Y c f l B A → xS Y c f l B ≠ none := by
  intro f
  induction f with
  | zero => intro l B A l0 h z; cases z
  | succ f ih =>
    intro l B A l0 ⟨s1, s2⟩
    have sl := s2 l (by omega) (by omega)
    refine xL_ne (v' := A l) ?_ ?_ c.toNat 0 sl.1 (by omega)
    · rw [← mayM_ext (A := A) _ _ (fun u u0 u1 => s1 u u0 (by omega)), sl.2.2]
      decide
    · refine ih _ _ A (by omega) ⟨fun j j0 j1 => ?_, fun j j0 j1 => s2 j (by omega) (by omega)⟩
      by_cases q : j = l
      · subst q; exact (fset_at _ _ _).symm
      · rw [fset_ne q]; exact s1 j j0 (by omega)
theorem mayM_sw {A A2 : Int → Int} {l v v2 : Int} : ∀ (m : Nat) (o : Int), (∀ j, o ≤ j → j < o + m → (A2 j = v2 ↔ A j = v)) → mayM Y l v2 A2 m o = mayM Y l v A m o := by
  intro m
  induction m with
  | zero => intro o _; rfl
  | succ m ih =>
    intro o h
    have h0 := h o (by omega) (by omega)
    unfold mayM
    rw [ih (o + 1) (fun j j0 j1 => h j (by omega) (by omega))]
    by_cases q : A o = v
    · by_cases w : and32 (Y (20 + l)) (shl32 1 o) ≠ 0
      · rw [if_pos ⟨w, h0.mpr q⟩, if_pos ⟨w, q⟩]
      · rw [if_neg (fun z => w z.1), if_neg (fun z => w z.1)]
    · rw [if_neg (fun z => q (h0.mp z.2)), if_neg (fun z => q z.2)]
def swV (l v x : Int) : Int := if x = l then v else if x = v then l else x
theorem swV_i {l v x y : Int} : swV l v x = swV l v y ↔ x = y := by
  unfold swV
  constructor
  · intro h
    by_cases a : x = l
    · by_cases b : y = l
      · omega
      · rw [if_pos a, if_neg b] at h; split at h <;> omega
    · rw [if_neg a] at h
      by_cases b : y = l
      · rw [if_pos b] at h; split at h <;> omega
      · rw [if_neg b] at h; split at h <;> split at h <;> omega
  · intro h; rw [h]
theorem sol_sw (f : Nat) {l v : Int} {B : Int → Int} (l0 : 0 ≤ l) (lv : l < v) (vc : v < c) (hB : ∀ j, 0 ≤ j → j < l → 0 ≤ B j ∧ B j ≤ j) (c0 : 0 ≤ c) (h : xS Y c f (l + 1) (fset B l v) ≠ none) : xS Y c f (l + 1) (fset B l l) ≠ none := by
  cases hx : xS Y c f (l + 1) (fset B l v) with
  | none => exact absurd hx h
  | some r =>
    obtain ⟨s1, s2⟩ := xS_sol c0 f (l + 1) _ r (by omega) hx
    refine sol_xS c0 f (l + 1) _ (fun j => swV l v (r j)) (by omega) ⟨fun j j0 j1 => ?_, fun j j0 j1 => ?_⟩
    · have e := s1 j j0 j1
      by_cases q : j = l
      · subst q
        rw [fset_at] at e ⊢
        show swV j v (r j) = j
        unfold swV
        rw [e, if_neg (by omega), if_pos rfl]
      · rw [fset_ne q] at e ⊢
        have b := hB j j0 (by omega)
        show swV l v (r j) = B j
        unfold swV
        rw [e, if_neg (by omega), if_neg (by omega)]
    · have z := s2 j (by omega) (by omega)
      refine ⟨?_, ?_, ?_⟩
      · show 0 ≤ swV l v (r j); unfold swV; split; omega; split <;> omega
      · show swV l v (r j) < c; unfold swV; split; omega; split <;> omega
      · show mayM Y j (swV l v (r j)) (fun j => swV l v (r j)) j.toNat 0 = 1
        rw [mayM_sw (A := r) (v := r j) _ _ (fun u _ _ => swV_i)]
        exact z.2.2
theorem mayM_self {B : Int → Int} {l : Int} : ∀ (m : Nat) (o : Int), 0 ≤ o → o + m ≤ l → (∀ j, 0 ≤ j → j < l → B j ≤ j) → mayM Y l l B m o = 1 := by
  intro m
  induction m with
  | zero => intro o _ _ _; rfl
  | succ m ih =>
    intro o o0 o1 h
    have h0 := h o o0 (by omega)
    unfold mayM
    rw [if_neg (by omega)]
    exact ih _ (by omega) (by omega) h
theorem sh_cmp (c0 : 0 ≤ c) : ∀ (f : Nat) (l : Int) (A B : Int → Int), 0 ≤ l → (∀ j, 0 ≤ j → j < l → A j = B j ∧ 0 ≤ B j ∧ B j ≤ j) → (∃ r, xS Y c f l B = some r ∧ (shM Y c f l A).1 = 1 ∧ ∀ j, 0 ≤ j → j < l + f → (shM Y c f l A).2 j = r j) ∨ (xS Y c f l B = none ∧ (shM Y c f l A).1 = 0 ∧ ∀ j, 0 ≤ j → j < l → (shM Y c f l A).2 j = B j) := by
  intro f
  induction f with
  | zero => intro l A B l0 h; exact .inl ⟨B, rfl, rfl, fun j j0 j1 => (h j j0 (by omega)).1⟩
  | succ f ih =>
    intro l A B l0 h
    have loop : ∀ (m mm : Nat) (v : Int) (A : Int → Int), 0 ≤ v → v + m = min c (l + 1) → v + mm = c → (∀ j, 0 ≤ j → j < l → A j = B j) → (v ≤ l ∨ xS Y c f (l + 1) (fset B l l) = none) → (∃ r, xL (xS Y c f (l + 1)) Y l mm v B = some r ∧ (lpM (shM Y c f (l + 1)) Y l m v A).1 = 1 ∧ ∀ j, 0 ≤ j → j < l + (f + 1 : Nat) → (lpM (shM Y c f (l + 1)) Y l m v A).2 j = r j) ∨ (xL (xS Y c f (l + 1)) Y l mm v B = none ∧ (lpM (shM Y c f (l + 1)) Y l m v A).1 = 0 ∧ ∀ j, 0 ≤ j → j < l → (lpM (shM Y c f (l + 1)) Y l m v A).2 j = B j) := by
      intro m
      induction m with
      | zero =>
        intro mm v A v0 vm vmm hA hf
        right
        refine ⟨?_, rfl, hA⟩
        cases hx : xL (xS Y c f (l + 1)) Y l mm v B with
        | none => rfl
        | some r =>
          exfalso
          obtain ⟨v', a, b, q1, q2⟩ := xL_some _ _ hx
          rcases hf with hf | hf
          · omega
          · exact sol_sw f (v := v') l0 (by omega) (by omega) (fun j j0 j1 => (h j j0 j1).2) c0 (by rw [q2]; intro z; cases z) hf
      | succ m ih2 =>
        intro mm v A v0 vm vmm hA hf
        obtain ⟨mm2, e2⟩ : ∃ u, mm = u + 1 := ⟨mm - 1, by omega⟩
        subst e2
        have em : mayM Y l v A l.toNat 0 = mayM Y l v B l.toNat 0 := mayM_ext _ _ (fun j j0 j1 => hA j j0 (by omega))
        unfold xL lpM
        rw [em]
        by_cases q : mayM Y l v B l.toNat 0 = 0
        · rw [if_pos q, if_pos q]
          refine ih2 mm2 (v + 1) A (by omega) (by omega) (by omega) hA (.inl ?_)
          by_cases w : v = l
          · subst w
            rw [mayM_self v.toNat 0 (by decide) (by omega) (fun j j0 j1 => (h j j0 j1).2.2)] at q
            omega
          · omega
        · rw [if_neg q, if_neg q]
          rcases ih (l + 1) (fset A l v) (fset B l v) (by omega) (fun j j0 j1 => by
            by_cases w : j = l
            · subst w; rw [fset_at, fset_at]; exact ⟨rfl, by omega, by omega⟩
            · rw [fset_ne w, fset_ne w]; exact ⟨hA j j0 (by omega), (h j j0 (by omega)).2⟩) with ⟨r, r1, r2, r3⟩ | ⟨r1, r2, r3⟩
          · left
            rw [r1, if_neg (by omega)]
            exact ⟨r, rfl, rfl, fun j j0 j1 => r3 j j0 (by omega)⟩
          · rw [r1, if_pos r2]
            refine ih2 mm2 (v + 1) _ (by omega) (by omega) (by omega) (fun j j0 j1 => (r3 j j0 (by omega)).trans (fset_ne (by omega))) ?_
            by_cases w : v = l
            · right; rw [← w] at r1 ⊢; exact r1
            · left; omega
    exact loop (min c (l + 1)).toNat c.toNat 0 A (by decide) (by omega) (by omega) (fun j j0 j1 => (h j j0 j1).1) (.inl l0)
theorem xS_all {N : Nat} : xS Y N N 0 (fun _ => -1) ≠ none := by
  refine sol_xS (by omega) N 0 _ (fun j => j) (by decide) ⟨fun j j0 j1 => by omega, fun j j0 j1 => ⟨j0, by show j < (N : Int); omega, ?_⟩⟩
  exact mayM_self j.toNat 0 (by decide) (by omega) (fun u _ _ => Int.le_refl _)
theorem fw_eq {N : Nat} : ∀ (m : Nat) (c : Int) (A : Int → Int), 0 ≤ c → c + m = N → (fwM Y N m c A).1 = (srF Y N m c).1 ∧ ∀ j : Int, 0 ≤ j → j < N → (fwM Y N m c A).2 j = (srF Y N m c).2 j := by
  intro m
  induction m with
  | zero =>
    intro c A c0 cm
    have ec : c = N := by omega
    subst ec
    unfold fwM srF
    rw [Int.toNat_natCast]
    rcases sh_cmp (Y := Y) c0 N 0 A (fun _ => -1) (by decide) (fun j j0 j1 => by omega) with ⟨r, r1, r2, r3⟩ | ⟨r1, _, _⟩
    · rw [r1]
      exact ⟨rfl, fun j j0 j1 => r3 j j0 (by omega)⟩
    · exact absurd r1 xS_all
  | succ m ih =>
    intro c A c0 cm
    unfold fwM srF
    rw [Int.toNat_natCast]
    rcases sh_cmp (Y := Y) c0 N 0 A (fun _ => -1) (by decide) (fun j j0 j1 => by omega) with ⟨r, r1, r2, r3⟩ | ⟨r1, r2, r3⟩
    · rw [r1, if_neg (by omega)]
      exact ⟨rfl, fun j j0 j1 => r3 j j0 (by omega)⟩
    · rw [r1, if_pos r2]
      exact ih _ _ (by omega) (by omega)
end SORT4
def aSorters (W : Int → Int → Int) (x : Int) : Int := if 0 ≤ x ∧ x ≤ 8 then (srF (W 2) x.toNat x.toNat 0).1 else -1
def aSorter (W : Int → Int → Int) (x l : Int) : Int := if 0 ≤ l ∧ l < x ∧ x ≤ 8 then (srF (W 2) x.toNat x.toNat 0).2 l else -1
theorem sr_eq {W : Int → Int → Int} {x : Int} {A : Int → Int} (x0 : 0 ≤ x) (x8 : x ≤ 8) : (fwM (W 2) x x.toNat 0 A).1 = aSorters W x ∧ ∀ j, 0 ≤ j → j < x → (fwM (W 2) x x.toNat 0 A).2 j = aSorter W x j := by
  have z := fw_eq (Y := W 2) (N := x.toNat) x.toNat 0 A (by decide) (by omega)
  rw [show ((x.toNat : Nat) : Int) = x by omega] at z
  unfold aSorters aSorter
  rw [if_pos ⟨x0, x8⟩]
  exact ⟨z.1, fun j j0 j1 => by rw [if_pos ⟨j0, j1, x8⟩]; exact z.2 j j0 j1⟩
theorem srF_ran {Y : Int → Int} {N : Nat} : ∀ (m : Nat) (c : Int), c + m = N → ∃ r, srF Y N m c = ((srF Y N m c).1, r) ∧ xS Y (srF Y N m c).1 N 0 (fun _ => -1) = some r := by
  intro m
  induction m with
  | zero =>
    intro c cm
    have ec : c = N := by omega
    subst ec
    unfold srF
    cases h : xS Y (N : Int) N 0 (fun _ => -1) with
    | none => exact absurd h xS_all
    | some r => exact ⟨r, rfl, h⟩
  | succ m ih =>
    intro c cm
    unfold srF
    cases h : xS Y c N 0 (fun _ => -1) with
    | some r => exact ⟨r, rfl, h⟩
    | none => exact ih _ (by omega)
section SORT5
variable {d bc bs n : Nat} {g h : aH} {Q : aQ} {W V : Int → Int → Int} {X : Int → Tx} {F B : Int → Int} {wr cm : Int} {M : Int → Int → Int}
theorem R_X13_laySorters {N : Nat} {l2 : Option aV} (s : IsMo g h W V X F B wr cm) (ok : okW W) (n8 : N ≤ 8) (k : ∀ M1 h1, IsM g h1 (fset M1 14 (srF (W 2) N N 0).2) → MT M1 W V X F B wr cm → Q (some (vI (srF (W 2) N N 0).1)) h1 n) : Rn (d + 4) bc bs mX13_laySorters 0 [some (vR (some 301)), some (vI (N : Int)), l2] [] h n Q := by
  obtain ⟨Z, hZ⟩ : ∃ Z, srF (W 2) N N 0 = Z := ⟨_, rfl⟩
  rw [hZ] at k
  have loop : ∀ (m : Nat) (c : Int) (h1 : aH), 0 ≤ c → c + m = N → srF (W 2) N m c = Z → IsMo g h1 W V X F B wr cm → Rn (d + 4) bc bs mX13_laySorters 10 [some (vR (some 301)), some (vI (N : Int)), some (vI c)] [] h1 n Q := by
    intro m
    induction m with
    | zero =>
      intro c h1 c0 cm hs s1
      have ec : c = N := by omega
      unfold srF at hs
      obtain ⟨_, e1, _⟩ := id s1
      have m0 := e1.o
      refine BX13_laySorters_10 (by first | assumption | exact up_at _ _ _ | (rw [up_ne (by omega)]; first | assumption | exact up_at _ _ _ | (rw [up_ne (by omega)]; assumption))) ?_
      refine R_X13_areSorted (by first | omega | (rw [fset_at]; omega) | (simp only [Ls_len]; omega) | assumption | exact Ls_get (by omega) (by omega) | exact up_at _ _ _ | rfl | decide) (by first | omega | (rw [fset_at]; omega) | (simp only [Ls_len]; omega) | assumption | exact Ls_get (by omega) (by omega) | exact up_at _ _ _ | rfl | decide) (by first | omega | (rw [fset_at]; omega) | (simp only [Ls_len]; omega) | assumption | exact Ls_get (by omega) (by omega) | exact up_at _ _ _ | rfl | decide) (by first | omega | (rw [fset_at]; omega) | (simp only [Ls_len]; omega) | assumption | exact Ls_get (by omega) (by omega) | exact up_at _ _ _ | rfl | decide) (by first | omega | (rw [fset_at]; omega) | (simp only [Ls_len]; omega) | assumption | exact Ls_get (by omega) (by omega) | exact up_at _ _ _ | rfl | decide) (by first | omega | (rw [fset_at]; omega) | (simp only [Ls_len]; omega) | assumption | exact Ls_get (by omega) (by omega) | exact up_at _ _ _ | rfl | decide) ?_ ?_
      · intro r M1 h2 er e2 t2
        refine BX13_laySorters_16  ?_ ?_
        · intro hc1
          refine BX13_laySorters_25  ?_
          first
          | (rw [Int.toNat_natCast] at er
             rw [er] at hs
             have a1 : Z.1 = c := by rw [← hs]
             have a2 : Z.2 = r := by rw [← hs]
             rw [a1, a2] at k
             exact k M1 h2 e2 t2)
          | (exfalso; omega)
        · intro hc2
          exact absurd hc2 (by decide)
      · intro er h2 s2
        refine BX13_laySorters_16  ?_ ?_
        · intro hc3
          exact absurd hc3 (by decide)
        · intro hc4
          refine BX13_laySorters_19 (by first | omega | (rw [fset_at]; omega) | (simp only [Ls_len]; omega) | assumption | exact Ls_get (by omega) (by omega) | exact up_at _ _ _ | rfl | decide) ?_
          (exfalso; rw [Int.toNat_natCast, ec] at er; exact xS_all er)
    | succ m ih =>
      intro c h1 c0 cm hs s1
      unfold srF at hs
      obtain ⟨_, e1, _⟩ := id s1
      have m0 := e1.o
      refine BX13_laySorters_10 (by first | assumption | exact up_at _ _ _ | (rw [up_ne (by omega)]; first | assumption | exact up_at _ _ _ | (rw [up_ne (by omega)]; assumption))) ?_
      refine R_X13_areSorted (by first | omega | (rw [fset_at]; omega) | (simp only [Ls_len]; omega) | assumption | exact Ls_get (by omega) (by omega) | exact up_at _ _ _ | rfl | decide) (by first | omega | (rw [fset_at]; omega) | (simp only [Ls_len]; omega) | assumption | exact Ls_get (by omega) (by omega) | exact up_at _ _ _ | rfl | decide) (by first | omega | (rw [fset_at]; omega) | (simp only [Ls_len]; omega) | assumption | exact Ls_get (by omega) (by omega) | exact up_at _ _ _ | rfl | decide) (by first | omega | (rw [fset_at]; omega) | (simp only [Ls_len]; omega) | assumption | exact Ls_get (by omega) (by omega) | exact up_at _ _ _ | rfl | decide) (by first | omega | (rw [fset_at]; omega) | (simp only [Ls_len]; omega) | assumption | exact Ls_get (by omega) (by omega) | exact up_at _ _ _ | rfl | decide) (by first | omega | (rw [fset_at]; omega) | (simp only [Ls_len]; omega) | assumption | exact Ls_get (by omega) (by omega) | exact up_at _ _ _ | rfl | decide) ?_ ?_
      · intro r M1 h2 er e2 t2
        refine BX13_laySorters_16  ?_ ?_
        · intro hc1
          refine BX13_laySorters_25  ?_
          first
          | (rw [Int.toNat_natCast] at er
             rw [er] at hs
             have a1 : Z.1 = c := by rw [← hs]
             have a2 : Z.2 = r := by rw [← hs]
             rw [a1, a2] at k
             exact k M1 h2 e2 t2)
          | (exfalso; omega)
        · intro hc2
          exact absurd hc2 (by decide)
      · intro er h2 s2
        refine BX13_laySorters_16  ?_ ?_
        · intro hc3
          exact absurd hc3 (by decide)
        · intro hc4
          refine BX13_laySorters_19 (by first | omega | (rw [fset_at]; omega) | (simp only [Ls_len]; omega) | assumption | exact Ls_get (by omega) (by omega) | exact up_at _ _ _ | rfl | decide) ?_
          first
          | (rw [Int.toNat_natCast] at er
             rw [er] at hs
             exact ih _ _ (by omega) (by omega) hs s2)
          | (exfalso; omega)
  by_cases q : N = 0
  · subst q
    refine BX13_laySorters_0  ?_ ?_
    · intro hc1
      (exfalso; omega)
    · intro hc2
      refine BX13_laySorters_4  ?_
      exact loop 0 0 h (by decide) (by decide) hZ s
  · obtain ⟨u, hu⟩ : ∃ u, N = u + 1 := ⟨N - 1, by omega⟩
    subst hu
    refine BX13_laySorters_0  ?_ ?_
    · intro hc1
      refine BX13_laySorters_8  ?_
      exact loop u 1 h (by decide) (by omega) hZ s
    · intro hc2
      (exfalso; omega)
theorem M_sorters {x : Int} (s : IsMo g h W V X F B wr cm) (ok : okW W) (k : ∀ h1, IsMo g h1 W V X F B wr cm → Q (some (vI (aSorters W x))) h1 n) : Rn (d + 30) bc bs mX13_sorters 0 [some (vR (some 301)), some (vI x)] [] h n Q := by
  unfold aSorters at k
  obtain ⟨M, e, ⟨⟨ts, te, ty, ⟨t1, t2, t3⟩, tp⟩, tb⟩, ⟨tv, tvb⟩, tx, ⟨⟨tt1, tt2, tt3⟩, tt4⟩, wr0, cm0, on⟩ := id s; obtain ⟨on1, on2, on3, on4, on5, on6, on7, on8⟩ := id on; have tt : tTp M F := ⟨⟨tt1, tt2, tt3⟩, tt4⟩; have m0 := e.o; have m1 := e.a1; have m2 := e.a2; have m3 := e.a3; have m4 := e.a4; have ts1 := ts.1; obtain ⟨te1, te2, te3, te4⟩ := id te; obtain ⟨⟨ty1, ty2, ty3, ty4, ty5⟩, ty6, ty7, ty8, ty9⟩ := id ty
  by_cases q : 0 ≤ x ∧ x ≤ 8
  · rw [if_pos q] at k
    have n8 : x.toNat ≤ 8 := by omega
    have lay : Rn (d + 29) 0 0 mX13_laySorters 0 [some (vR (some 301)), some (vI x), none] [] h n (fun v h1 n1 => v = some (vI (srF (W 2) x.toNat x.toNat 0).1) ∧ IsMo g h1 W V X F B wr cm ∧ n1 = n) := by
      rw [show x = ((x.toNat : Nat) : Int) by omega]
      refine R_X13_laySorters s ok n8 (fun M1 h1 e1 t1 => ⟨?_, ⟨fset M1 14 _, e1, t1⟩, rfl⟩)
      rw [Int.toNat_natCast]
    refine BX13_sorters_0  ?_
    refine R_X13_isIn  ?_ ?_
    · intro w1 w2
      refine BX13_sorters_7  ?_ ?_
      · intro hc1
        exact absurd hc1 (by decide)
      · intro hc2
        refine BX13_sorters_10 m0 ?_
        refine Rn.mono ?_ lay
        rintro v h1 n1 ⟨rfl, s1, rfl⟩
        exact BX13_sorters_15 (k _ s1)
    · intro w3
      refine BX13_sorters_7  ?_ ?_
      · intro hc3
        refine BX13_sorters_18  ?_
        (exfalso; omega)
      · intro hc4
        exact absurd hc4 (by decide)
  · rw [if_neg q] at k
    refine BX13_sorters_0  ?_
    refine R_X13_isIn  ?_ ?_
    · intro w1 w2
      refine BX13_sorters_7  ?_ ?_
      · intro hc1
        exact absurd hc1 (by decide)
      · intro hc2
        (exfalso; omega)
    · intro w3
      refine BX13_sorters_7  ?_ ?_
      · intro hc3
        refine BX13_sorters_18  ?_
        exact k _ s
      · intro hc4
        exact absurd hc4 (by decide)
theorem M_sorter {x l : Int} (s : IsMo g h W V X F B wr cm) (ok : okW W) (k : ∀ h1, IsMo g h1 W V X F B wr cm → Q (some (vI (aSorter W x l))) h1 n) : Rn (d + 30) bc bs mX13_sorter 0 [some (vR (some 301)), some (vI x), some (vI l)] [] h n Q := by
  unfold aSorter at k
  obtain ⟨M, e, ⟨⟨ts, te, ty, ⟨t1, t2, t3⟩, tp⟩, tb⟩, ⟨tv, tvb⟩, tx, ⟨⟨tt1, tt2, tt3⟩, tt4⟩, wr0, cm0, on⟩ := id s; obtain ⟨on1, on2, on3, on4, on5, on6, on7, on8⟩ := id on; have tt : tTp M F := ⟨⟨tt1, tt2, tt3⟩, tt4⟩; have m0 := e.o; have m1 := e.a1; have m2 := e.a2; have m3 := e.a3; have m4 := e.a4; have ts1 := ts.1; obtain ⟨te1, te2, te3, te4⟩ := id te; obtain ⟨⟨ty1, ty2, ty3, ty4, ty5⟩, ty6, ty7, ty8, ty9⟩ := id ty
  by_cases q : 0 ≤ l ∧ l < x ∧ x ≤ 8
  · rw [if_pos q] at k
    have n8 : x.toNat ≤ 8 := by omega
    have lay : Rn (d + 29) 0 0 mX13_laySorters 0 [some (vR (some 301)), some (vI x), none] [] h n (fun v h1 n1 => (∃ M1, IsM g h1 (fset M1 14 (srF (W 2) x.toNat x.toNat 0).2) ∧ MT M1 W V X F B wr cm) ∧ n1 = n ∧ ∃ u, v = some (vI u)) := by
      rw [show x = ((x.toNat : Nat) : Int) by omega]
      refine R_X13_laySorters s ok n8 (fun M1 h1 e1 t1 => ⟨⟨M1, ?_, t1⟩, rfl, _, rfl⟩)
      rw [Int.toNat_natCast]
      exact e1
    refine BX13_sorter_0  ?_
    refine R_X13_isIn  ?_ ?_
    · intro w1 w2
      refine BX13_sorter_7  ?_ ?_
      · intro hc1
        exact absurd hc1 (by decide)
      · intro hc2
        refine BX13_sorter_10 (by first | omega | (rw [fset_at]; omega) | (simp only [Ls_len]; omega) | assumption | exact Ls_get (by omega) (by omega) | exact up_at _ _ _ | rfl | decide) ?_
        refine R_X13_isIn  ?_ ?_
        · intro w1 w2
          refine BX13_sorter_18  ?_ ?_
          · intro hc3
            refine BX13_sorter_23 m0 ?_
            refine Rn.mono ?_ lay
            rintro v h1 n1 ⟨⟨M1, e1, t1⟩, rfl, u, rfl⟩
            have m0 := e1.o
            have m14 : h1 315 = cI (Ls 8 (srF (W 2) x.toNat x.toNat 0).2) := e1.a14
            exact BX13_sorter_28 m0 rfl m14 q.1 (Ls_get q.1 (by omega)) (k _ ⟨fset M1 14 _, e1, t1⟩)
          · intro hc4
            exact absurd hc4 (by decide)
        · intro w3
          refine BX13_sorter_18  ?_ ?_
          · intro hc5
            exact absurd hc5 (by decide)
          · intro hc6
            refine BX13_sorter_21  ?_
            (exfalso; omega)
    · intro w3
      refine BX13_sorter_7  ?_ ?_
      · intro hc7
        refine BX13_sorter_21  ?_
        (exfalso; omega)
      · intro hc8
        exact absurd hc8 (by decide)
  · rw [if_neg q] at k
    refine BX13_sorter_0  ?_
    refine R_X13_isIn  ?_ ?_
    · intro w1 w2
      refine BX13_sorter_7  ?_ ?_
      · intro hc1
        exact absurd hc1 (by decide)
      · intro hc2
        refine BX13_sorter_10 (by first | omega | (rw [fset_at]; omega) | (simp only [Ls_len]; omega) | assumption | exact Ls_get (by omega) (by omega) | exact up_at _ _ _ | rfl | decide) ?_
        refine R_X13_isIn  ?_ ?_
        · intro w1 w2
          refine BX13_sorter_18  ?_ ?_
          · intro hc3
            (exfalso; omega)
          · intro hc4
            exact absurd hc4 (by decide)
        · intro w3
          refine BX13_sorter_18  ?_ ?_
          · intro hc5
            exact absurd hc5 (by decide)
          · intro hc6
            refine BX13_sorter_21  ?_
            exact k _ s
    · intro w3
      refine BX13_sorter_7  ?_ ?_
      · intro hc7
        refine BX13_sorter_21  ?_
        exact k _ s
      · intro hc8
        exact absurd hc8 (by decide)
end SORT5
