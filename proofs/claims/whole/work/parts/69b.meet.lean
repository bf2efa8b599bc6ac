/-! Routes: when one meets another. -/
def fnd (f : Int → Bool) : Nat → Int → Int
  | 0, _ => 0
  | k + 1, s => if f s = true then s else fnd f k (s + 1)
theorem fnd_in (f : Int → Bool) : ∀ (k : Nat) (s : Int), 1 ≤ s → fnd f k s = 0 ∨ (s ≤ fnd f k s ∧ fnd f k s < s + k ∧ f (fnd f k s) = true) := by
  intro k
  induction k with
  | zero => intro s _; exact .inl rfl
  | succ k ih =>
    intro s hs
    unfold fnd
    split
    · exact .inr ⟨by omega, by omega, by assumption⟩
    · rcases ih (s + 1) (by omega) with q | ⟨q1, q2, q3⟩
      · exact .inl q
      · exact .inr ⟨by omega, by omega, q3⟩
def mtF (cu : Int → Int) (a b t w x : Int) : Bool := decide (drift cu (t + w) x.toNat a = b)
def mtM (D w : Int) (q : Int × Int) : Int := min D ((if q.1 = -1 then 61 else q.1) - w - 1)
def mtS (cu : Int → Int) (a b t D w : Int) (q : Int × Int) : Int × Int := if fnd (mtF cu a b t w) (mtM D w q).toNat 1 = 0 then q else (w + fnd (mtF cu a b t w) (mtM D w q).toNat 1, w)
def mtN (cu : Int → Int) (a b t D : Int) : Nat → Int × Int
  | 0 => (-1, -1)
  | k + 1 => mtS cu a b t D k (mtN cu a b t D k)
theorem mtN_in (cu : Int → Int) (a b t D : Int) : ∀ k : Nat, (mtN cu a b t D k).1 = -1 ∨ (1 ≤ (mtN cu a b t D k).1 ∧ (mtN cu a b t D k).1 ≤ 60) := by
  intro k
  induction k with
  | zero => exact .inl rfl
  | succ k ih =>
    unfold mtN mtS
    split
    · exact ih
    · rcases fnd_in (mtF cu a b t k) (mtM D k (mtN cu a b t D k)).toNat 1 (by decide) with q | ⟨q1, q2, q3⟩
      · exact absurd q (by assumption)
      · right
        have hM : mtM D k (mtN cu a b t D k) ≤ 60 - k := by unfold mtM; split <;> omega
        generalize fnd (mtF cu a b t k) (mtM D k (mtN cu a b t D k)).toNat 1 = x at *
        dsimp only
        omega
def RoS (h : aH) (w0 bt bc go wa : Int) (bw be : Int → Int) : Prop := h 289 = cO 4 [vI w0, vR (some 290), vR (some 291), vI bc, vI bt, vI go, vI wa] ∧ h 290 = cI (Ls 4 bw) ∧ h 291 = cI (Ls 4 be)
theorem RoS.fr {h h1 : aH} {w0 bt bc go wa : Int} {bw be : Int → Int} {lo k : Nat} (s : RoS h w0 bt bc go wa bw be) (f : Fr h h1 lo k) (hd : 292 ≤ lo ∨ lo + k ≤ 289) : RoS h1 w0 bt bc go wa bw be := ⟨by rw [f _ (by omega)]; exact s.1, by rw [f _ (by omega)]; exact s.2.1, by rw [f _ (by omega)]; exact s.2.2⟩
section MEET
variable {d bc bs n : Nat} {h : aH} {Q : aQ} {z : Nat} {np fr to t D w0 bt bcn go wa : Int} {pl lk cu bw be : Int → Int}
theorem meet6 (zs : IsSh h z np pl lk cu) (o : okSh np pl lk cu) (hz : z ≠ 0) (hz2 : z + 4 ≤ 289) (t0 : 0 ≤ t) (t1 : t < 20000) (D0 : 0 ≤ D) (D1 : D ≤ 60) (i : Nat) (hi : i < 10) {l8 l9 l10 : Option aV} (s : RoS h w0 bt bcn go wa bw be) (hw : (mtN cu (atP np pl fr) (atP np pl to) t D i).1 ≠ -1 → w0 = (mtN cu (atP np pl fr) (atP np pl to) t D i).2) (K : ∀ h1 w1 l8 l9 l10, Fr h h1 289 3 → RoS h1 w1 bt bcn go wa bw be → ((mtN cu (atP np pl fr) (atP np pl to) t D (i + 1)).1 ≠ -1 → w1 = (mtN cu (atP np pl fr) (atP np pl to) t D (i + 1)).2) → Rn (d + 2) bc bs mX4_meet 6 [some (vR (some 289)), some (vR (some z)), some (vI fr), some (vI to), some (vI t), some (vI D), some (vI (mtN cu (atP np pl fr) (atP np pl to) t D (i + 1)).1), some (vI ((i : Int) + 1)), l8, l9, l10] [] h1 n Q) : Rn (d + 2) bc bs mX4_meet 6 [some (vR (some 289)), some (vR (some z)), some (vI fr), some (vI to), some (vI t), some (vI D), some (vI (mtN cu (atP np pl fr) (atP np pl to) t D i).1), some (vI (i : Int)), l8, l9, l10] [] h n Q := by
  obtain ⟨s1, s2, s3⟩ := id s
  have z1 := zs.1
  have o1 := o.1
  have pa := (atP_ok o fr).1
  have tt := mtN_in cu (atP np pl fr) (atP np pl to) t D i
  have hK : mtN cu (atP np pl fr) (atP np pl to) t D (i + 1) = mtS cu (atP np pl fr) (atP np pl to) t D i (mtN cu (atP np pl fr) (atP np pl to) t D i) := rfl
  rw [hK] at K
  clear hK
  generalize hA : atP np pl fr = A at *
  generalize hB : atP np pl to = B at *
  generalize mtN cu A B t D i = q at *
  have M1 : mtM D i q ≤ 60 := by unfold mtM; omega
  have inner : ∀ (m : Nat) (x : Int), x + m = (mtM D i q).toNat + 1 → 1 ≤ x → fnd (mtF cu A B t i) m x = fnd (mtF cu A B t i) (mtM D i q).toNat 1 → ∀ (x9 : Int), (x9 = mtM D i q) → Rn (d + 2) bc bs mX4_meet 48 [some (vR (some 289)), some (vR (some z)), some (vI fr), some (vI to), some (vI t), some (vI D), some (vI q.1), some (vI (i : Int)), some (vI (drift cu (t + i) (x - 1).toNat A)), some (vI x9), some (vI x)] [] h n Q := by
    intro m
    induction m with
    | zero =>
      intro x hx hx1 hf x9 e9
      have e : mtS cu A B t D i q = q := by unfold mtS; rw [← hf]; exact if_pos rfl
      rw [e] at K
      refine BX4_meet_48  ?_ ?_
      · intro hc1
        first
        | (exfalso; omega)
        | (
            refine BX4_meet_108 (by first | omega | assumption | (simp only [Ls_len]; omega) | exact Ls_get (by omega) (by omega) | rfl | decide) ?_
            exact K _ _ _ _ _ (Fr.rf _ _ _) s hw
          )
      · intro hc2
        first
        | (exfalso; omega)
        | (
            (exfalso; omega)
          )
    | succ m ih =>
      intro x hx hx1 hf x9 e9
      have dp := drift_ok o.2.2 (t := t + i) (p := A) ⟨by omega, by omega⟩ (x - 1).toNat
      have e3 : drift cu (t + i) x.toNat A = lead cu (t + i + x - 1) (drift cu (t + i) (x - 1).toNat A) := by
        have : x.toNat = (x - 1).toNat + 1 := by omega
        rw [this, drift]
        congr 1
        omega
      have ff : fnd (mtF cu A B t i) (m + 1) x = if mtF cu A B t i x = true then x else fnd (mtF cu A B t i) m (x + 1) := rfl
      rw [ff] at hf
      refine BX4_meet_48  ?_ ?_
      · intro hc1
        (exfalso; omega)
      · intro hc2
        refine BX4_meet_55 (by first | omega | assumption | (simp only [Ls_len]; omega) | exact Ls_get (by omega) (by omega) | rfl | decide) (by first | omega | assumption | (simp only [Ls_len]; omega) | exact Ls_get (by omega) (by omega) | rfl | decide) (by first | omega | assumption | (simp only [Ls_len]; omega) | exact Ls_get (by omega) (by omega) | rfl | decide) (by first | assumption | exact up_at _ _ _ | (rw [up_ne (by omega)]; first | assumption | exact up_at _ _ _ | (rw [up_ne (by omega)]; first | assumption | exact up_at _ _ _ | (rw [up_ne (by omega)]; assumption)))) ?_
        refine R_X7_leadsTo (by first | omega | assumption | (simp only [Ls_len]; omega) | exact Ls_get (by omega) (by omega) | rfl | decide) (by first | omega | assumption | (simp only [Ls_len]; omega) | exact Ls_get (by omega) (by omega) | rfl | decide) (by first | omega | assumption | (simp only [Ls_len]; omega) | exact Ls_get (by omega) (by omega) | rfl | decide) (by first | omega | assumption | (simp only [Ls_len]; omega) | exact Ls_get (by omega) (by omega) | rfl | decide) (by first | omega | assumption | (simp only [Ls_len]; omega) | exact Ls_get (by omega) (by omega) | rfl | decide) ?_
        refine BX4_meet_71 (by first | assumption | exact up_at _ _ _ | (rw [up_ne (by omega)]; first | assumption | exact up_at _ _ _ | (rw [up_ne (by omega)]; first | assumption | exact up_at _ _ _ | (rw [up_ne (by omega)]; assumption)))) ?_
        refine R_X7_placeAt (by first | omega | assumption | (simp only [Ls_len]; omega) | exact Ls_get (by omega) (by omega) | rfl | decide) (by first | omega | assumption | (simp only [Ls_len]; omega) | exact Ls_get (by omega) (by omega) | rfl | decide) ?_
        refine BX4_meet_80  ?_ ?_
        · intro hc3
          refine BX4_meet_86 (by first | omega | assumption | (simp only [Ls_len]; omega) | exact Ls_get (by omega) (by omega) | rfl | decide) (by first | assumption | exact up_at _ _ _ | (rw [up_ne (by omega)]; first | assumption | exact up_at _ _ _ | (rw [up_ne (by omega)]; first | assumption | exact up_at _ _ _ | (rw [up_ne (by omega)]; assumption)))) (by simp) ?_
          refine BX4_meet_99 (by first | omega | assumption | (simp only [Ls_len]; omega) | exact Ls_get (by omega) (by omega) | rfl | decide) ?_
          rw [if_pos (show mtF cu A B t i x = true by unfold mtF; rw [e3]; exact decide_eq_true (by rw [← hB]; assumption))] at hf
          have e : mtS cu A B t D i q = (i + x, (i : Int)) := by unfold mtS; rw [← hf]; exact if_neg (by omega)
          rw [e] at K
          exact K _ _ _ _ _ ((Fr.rf h 289 3).put (by decide) (by decide)) ⟨up_at _ _ _, by rw [up_ne (by decide)]; exact s2, by rw [up_ne (by decide)]; exact s3⟩ (fun _ => rfl)
        · intro hc4
          refine BX4_meet_83 (by first | omega | assumption | (simp only [Ls_len]; omega) | exact Ls_get (by omega) (by omega) | rfl | decide) ?_
          first
          | (exfalso; omega)
          | (rw [if_neg (show ¬ mtF cu A B t i x = true by unfold mtF; rw [e3]; exact fun q => absurd (of_decide_eq_true q) (by rw [← hB]; assumption))] at hf
             have ih1 := ih (x + 1) (by omega) (by omega) hf x9 e9
             rw [show x + 1 - 1 = x by omega, e3] at ih1
             exact ih1)
  refine BX4_meet_6  ?_ ?_
  · intro hc1
    (exfalso; omega)
  · intro hc2
    refine BX4_meet_13 (by first | assumption | exact up_at _ _ _ | (rw [up_ne (by omega)]; first | assumption | exact up_at _ _ _ | (rw [up_ne (by omega)]; first | assumption | exact up_at _ _ _ | (rw [up_ne (by omega)]; assumption)))) ?_
    refine R_X7_placeAt (by first | omega | assumption | (simp only [Ls_len]; omega) | exact Ls_get (by omega) (by omega) | rfl | decide) (by first | omega | assumption | (simp only [Ls_len]; omega) | exact Ls_get (by omega) (by omega) | rfl | decide) ?_
    refine BX4_meet_18  ?_ ?_
    · intro hc3
      refine BX4_meet_33 (by first | omega | assumption | (simp only [Ls_len]; omega) | exact Ls_get (by omega) (by omega) | rfl | decide) (by first | omega | assumption | (simp only [Ls_len]; omega) | exact Ls_get (by omega) (by omega) | rfl | decide) ?_
      refine R_J9_min  ?_
      refine BX4_meet_43  ?_
      have e5 := inner (mtM D i q).toNat 1 (by omega) (by decide) rfl (mtM D i q) rfl
      rw [show ((1 : Int) - 1).toNat = 0 from rfl] at e5
      unfold mtM at e5
      first
      | (rw [if_pos (by assumption)] at e5; rw [hA]; exact e5)
      | (rw [if_neg (by assumption)] at e5; rw [hA]; exact e5)
    · intro hc4
      refine BX4_meet_28 (by first | omega | assumption | (simp only [Ls_len]; omega) | exact Ls_get (by omega) (by omega) | rfl | decide) (by first | omega | assumption | (simp only [Ls_len]; omega) | exact Ls_get (by omega) (by omega) | rfl | decide) ?_
      refine R_J9_min  ?_
      refine BX4_meet_43  ?_
      have e5 := inner (mtM D i q).toNat 1 (by omega) (by decide) rfl (mtM D i q) rfl
      rw [show ((1 : Int) - 1).toNat = 0 from rfl] at e5
      unfold mtM at e5
      first
      | (rw [if_pos (by assumption)] at e5; rw [hA]; exact e5)
      | (rw [if_neg (by assumption)] at e5; rw [hA]; exact e5)
theorem R_X4_meet (zs : IsSh h z np pl lk cu) (o : okSh np pl lk cu) (hz : z ≠ 0) (hz2 : z + 4 ≤ 289) (t0 : 0 ≤ t) (t1 : t < 20000) (D0 : 0 ≤ D) (D1 : D ≤ 60) (s : RoS h w0 bt bcn go wa bw be) (k : ∀ h1 w1, Fr h h1 289 3 → RoS h1 w1 bt bcn go wa bw be → ((mtN cu (atP np pl fr) (atP np pl to) t D 10).1 ≠ -1 → w1 = (mtN cu (atP np pl fr) (atP np pl to) t D 10).2) → Q (some (vI (mtN cu (atP np pl fr) (atP np pl to) t D 10).1)) h1 n) : Rn (d + 2) bc bs mX4_meet 0 [some (vR (some 289)), some (vR (some z)), some (vI fr), some (vI to), some (vI t), some (vI D), none, none, none, none, none] [] h n Q := by
  have loop : ∀ (m i : Nat) (h1 : aH) (w1 : Int) (l8 l9 l10 : Option aV), i + m = 10 → Fr h h1 289 3 → RoS h1 w1 bt bcn go wa bw be → ((mtN cu (atP np pl fr) (atP np pl to) t D i).1 ≠ -1 → w1 = (mtN cu (atP np pl fr) (atP np pl to) t D i).2) → Rn (d + 2) bc bs mX4_meet 6 [some (vR (some 289)), some (vR (some z)), some (vI fr), some (vI to), some (vI t), some (vI D), some (vI (mtN cu (atP np pl fr) (atP np pl to) t D i).1), some (vI (i : Int)), l8, l9, l10] [] h1 n Q := by
    intro m
    induction m with
    | zero =>
      intro i h1 w1 l8 l9 l10 hi f s hw
      have e : i = 10 := by omega
      subst e
      refine BX4_meet_6  ?_ ?_
      · intro hc1
        first
        | (exfalso; omega)
        | (
            refine BX4_meet_114  ?_
            exact k _ _ f s hw
          )
      · intro hc2
        first
        | (exfalso; omega)
        | (
            (exfalso; omega)
          )
    | succ m ih =>
      intro i h1 w1 l8 l9 l10 hi f s hw
      refine meet6 (zs.fr f (by omega)) o hz hz2 t0 t1 D0 D1 i (by omega) s hw fun h2 w2 m8 m9 m10 f2 s2 hw2 => ?_
      exact ih (i + 1) h2 w2 m8 m9 m10 (by omega) (f.tr f2) s2 hw2
  refine BX4_meet_0  ?_
  exact loop 10 0 h w0 none none none (by decide) (Fr.rf _ _ _) s fun q => absurd rfl q
end MEET
