/-! The reading itself, by fuel. -/
def GKs (F : Int → Int) (cc : Int) (co we : Option Nat) (cl : Int → Int) (iw : Int) (f nt D : Nat) (rk : Int) (M : aM) (pc : Nat) (ls : aL) (pre : Ps → Prop) : Prop := ∀ (d bc bs n : Nat) (h : aH) (Q : aQ) (S : Ps) (r : Nat) (op : Int), op + r = 8 → 0 ≤ op → Gm h F cc co we cl op iw S → okZ F S → pre S → (F 2 - S.2.2.1) * 9 + rk < f → (∀ h1, Fr h h1 282 5 → Gm h1 F cc co we cl op iw (gk F iw f nt op S) → Q none h1 n) → Rn (d + 10 * r + D) bc bs M pc ls [] h n Q
def GK0 (F : Int → Int) (cc : Int) (co we : Option Nat) (cl : Int → Int) (iw : Int) (f : Nat) : Prop := GKs F cc co we cl iw f 0 10 1 mX1_readOne 0 [some (vR (some 284)), some (vR (some 282))] (fun S => True)
def GK1 (F : Int → Int) (cc : Int) (co we : Option Nat) (cl : Int → Int) (iw : Int) (f : Nat) : Prop := GKs F cc co we cl iw f 1 11 2 mX1_readProduct 0 [some (vR (some 284)), some (vR (some 282)), none, none] (fun S => True)
def GK2 (F : Int → Int) (cc : Int) (co we : Option Nat) (cl : Int → Int) (iw : Int) (f : Nat) : Prop := ∀ (i : Int) (l3 : Option aV), GKs F cc co we cl iw f 2 11 0 mX1_readProduct 7 [some (vR (some 284)), some (vR (some 282)), some (vI i), l3] (fun S => 0 ≤ i ∧ i ≤ S.2.2.1)
def GK3 (F : Int → Int) (cc : Int) (co we : Option Nat) (cl : Int → Int) (iw : Int) (f : Nat) : Prop := GKs F cc co we cl iw f 3 12 3 mX1_readSum 0 [some (vR (some 284)), some (vR (some 282)), none, none] (fun S => True)
def GK4 (F : Int → Int) (cc : Int) (co we : Option Nat) (cl : Int → Int) (iw : Int) (f : Nat) : Prop := ∀ (i : Int) (l3 : Option aV), GKs F cc co we cl iw f 4 12 0 mX1_readSum 7 [some (vR (some 284)), some (vR (some 282)), some (vI i), l3] (fun S => 0 ≤ i ∧ i ≤ S.2.2.1)
def GK5 (F : Int → Int) (cc : Int) (co we : Option Nat) (cl : Int → Int) (iw : Int) (f : Nat) : Prop := GKs F cc co we cl iw f 5 13 4 mX1_readComparison 0 [some (vR (some 284)), some (vR (some 282)), none] (fun S => True)
def GK6 (F : Int → Int) (cc : Int) (co we : Option Nat) (cl : Int → Int) (iw : Int) (f : Nat) : Prop := GKs F cc co we cl iw f 6 14 5 mX1_readAsk 0 [some (vR (some 284)), some (vR (some 282))] (fun S => True)
def GK7 (F : Int → Int) (cc : Int) (co we : Option Nat) (cl : Int → Int) (iw : Int) (f : Nat) : Prop := GKs F cc co we cl iw f 7 15 6 mX1_readBoth 0 [some (vR (some 284)), some (vR (some 282)), none] (fun S => True)
def GK8 (F : Int → Int) (cc : Int) (co we : Option Nat) (cl : Int → Int) (iw : Int) (f : Nat) : Prop := ∀ (i : Int), GKs F cc co we cl iw f 8 15 0 mX1_readBoth 7 [some (vR (some 284)), some (vR (some 282)), some (vI i)] (fun S => 0 ≤ i ∧ i ≤ S.2.2.1)
def GK9 (F : Int → Int) (cc : Int) (co we : Option Nat) (cl : Int → Int) (iw : Int) (f : Nat) : Prop := GKs F cc co we cl iw f 9 16 7 mX1_readEither 0 [some (vR (some 284)), some (vR (some 282)), none] (fun S => True)
def GK10 (F : Int → Int) (cc : Int) (co we : Option Nat) (cl : Int → Int) (iw : Int) (f : Nat) : Prop := ∀ (i : Int), GKs F cc co we cl iw f 10 16 0 mX1_readEither 7 [some (vR (some 284)), some (vR (some 282)), some (vI i)] (fun S => 0 ≤ i ∧ i ≤ S.2.2.1)
def GK11 (F : Int → Int) (cc : Int) (co we : Option Nat) (cl : Int → Int) (iw : Int) (f : Nat) : Prop := GKs F cc co we cl iw f 11 18 0 mX1_readOpened 0 [some (vR (some 284)), some (vR (some 282)), none] (fun S => opB (kdP F S) = true)
def GK12 (F : Int → Int) (cc : Int) (co we : Option Nat) (cl : Int → Int) (iw : Int) (f : Nat) : Prop := GKs F cc co we cl iw f 12 17 8 mX1_readIf 0 [some (vR (some 284)), some (vR (some 282)), none, none] (fun S => S.2.2.2.1 + 2 ≤ 2 * S.2.2.1)
def GKA (F : Int → Int) (cc : Int) (co we : Option Nat) (cl : Int → Int) (iw : Int) (f : Nat) : Prop := GK0 F cc co we cl iw f ∧ GK1 F cc co we cl iw f ∧ GK2 F cc co we cl iw f ∧ GK3 F cc co we cl iw f ∧ GK4 F cc co we cl iw f ∧ GK5 F cc co we cl iw f ∧ GK6 F cc co we cl iw f ∧ GK7 F cc co we cl iw f ∧ GK8 F cc co we cl iw f ∧ GK9 F cc co we cl iw f ∧ GK10 F cc co we cl iw f ∧ GK11 F cc co we cl iw f ∧ GK12 F cc co we cl iw f
theorem tk_end {F : Int → Int} {p : Int} (h : p = F 2) : tkK F p = 0 := by
  have s := tkS_in (F := F) (p := p) (by omega)
  have e : tkS F p = F 2 := by omega
  have b : byA F (tkS F p) = -1 := by unfold byA; rw [if_neg (by omega)]
  unfold tkK tkT
  rw [if_pos b]
theorem op_in {k : Int} (h : opB k = true) : k = 13 ∨ k = 10 ∨ k = 32 ∨ k = 34 ∨ k = 35 := of_decide_eq_true h
theorem not_se {F : Int → Int} {k : Int} {S : Ps} (h : seP F k S = false) : ¬ seP F k S = true := by rw [h]; decide
section GKK
variable {F cl : Int → Int} {cc iw : Int} {co we : Option Nat} {f : Nat}
theorem gk_1 (o : okF F) (A : GKA F cc co we cl iw f) : GK1 F cc co we cl iw (f + 1) := by
  intro d bc bs n h Q S r op hop hop0 s z _ ms k
  have C0 := fun {d bc bs n : Nat} {h : aH} {Q : aQ} {S : Ps} (s : Gm h F cc co we cl op iw S) (z : okZ F S) => (A.1) d bc bs n h Q S r op hop hop0 s z trivial
  have C2 := fun {i : Int} {l3 : Option aV} {d bc bs n : Nat} {h : aH} {Q : aQ} {S : Ps} => (A.2.2.1) i l3 d bc bs n h Q S r op hop hop0
  have ek : gk F iw (f + 1) 1 op S = gk F iw f 2 op (gk F iw f 0 op S) := rfl
  rw [ek] at k
  have L : leQ F 0 S (gk F iw f 0 op S) := gk_le o f 0 op S z (fun e => absurd e (by decide)) (fun e => absurd e (by decide))
  have z2 := L.ok z
  obtain ⟨l1, l2, l3, l4⟩ := id L
  have z0 := z.1
  obtain ⟨⟨tv, tk, tvv⟩, g1, g2, g3⟩ := id s; have tk1 := tk.1
  refine BX1_readProduct_0 (by first | assumption | exact up_at _ _ _ | (rw [up_ne (by omega)]; first | assumption | exact up_at _ _ _ | (rw [up_ne (by omega)]; first | assumption | exact up_at _ _ _ | (rw [up_ne (by omega)]; assumption)))) ?_
  refine C0 (by first | omega | assumption | exact okZ.q (by assumption) | (simp only [Ls_len]; omega) | exact Ls_get (by omega) (by omega) | rfl | decide) (by first | omega | assumption | exact okZ.q (by assumption) | (simp only [Ls_len]; omega) | exact Ls_get (by omega) (by omega) | rfl | decide) (by first | omega | assumption | exact okZ.q (by assumption) | (simp only [Ls_len]; omega) | exact Ls_get (by omega) (by omega) | rfl | decide) ?_
  intro h2 r2 s2
  refine BX1_readProduct_5  ?_
  exact C2 s2 z2 ⟨by decide, by omega⟩ (by omega) fun h1 f1 s1 => k h1 (r2.tr f1) s1
theorem gk_2 (o : okF F) (A : GKA F cc co we cl iw f) : GK2 F cc co we cl iw (f + 1) := by
  intro i l3 d bc bs n h Q S r op hop hop0 s z pre ms k
  have C0 := fun {d bc bs n : Nat} {h : aH} {Q : aQ} {S : Ps} (s : Gm h F cc co we cl op iw S) (z : okZ F S) => (A.1) d bc bs n h Q S r op hop hop0 s z trivial
  have C2 := fun {i : Int} {l3 : Option aV} {d bc bs n : Nat} {h : aH} {Q : aQ} {S : Ps} => (A.2.2.1) i l3 d bc bs n h Q S r op hop hop0
  have ek : gk F iw (f + 1) 2 op S = if seP F 11 S = true ∨ seP F 12 S = true then gk F iw f 2 op (addP (kdP F S) 0 (gk F iw f 0 op (advP F S))) else S := rfl
  rw [ek] at k
  have hk : (seP F 11 S = true ∨ seP F 12 S = true) → (kdP F S = 11 ∨ kdP F S = 12) := fun q => q.imp (fun q => (seP_kd q).2) (fun q => (seP_kd q).2)
  have o1 := o.1
  have z0 := z.1
  have z1 := z.2.1
  have kn : i = 300 → ¬ (seP F 11 S = true ∨ seP F 12 S = true) := fun e q => by
    have q := hk q
    have t : kdP F S = 0 := tk_end (by omega)
    omega
  obtain ⟨⟨tv, tk, tvv⟩, g1, g2, g3⟩ := id s; have tk1 := tk.1
  have kd : kdP F S = tkK F S.2.2.1 := rfl
  have B34 : (seP F 11 S = true ∨ seP F 12 S = true) → i < 300 → Rn (d + 10 * r + 11) bc bs mX1_readProduct 34 [some (vR (some 284)), some (vR (some 282)), some (vI i), l3] [] h n Q := by
    intro q hi
    rw [if_pos q] at k
    have q := hk q
    have a := advP_le o z (by omega)
    have az := (a.1.tr (leQ.rf a.1.2.1) (show (-2 : Int) + 0 ≤ 0 by decide)).ok z
    have tn := tkN_gt o z0 z1 (show tkK F S.2.2.1 ≠ 0 by omega)
    have L : leQ F 0 (advP F S) (gk F iw f 0 op (advP F S)) := gk_le o f 0 op _ az (fun e => absurd e (by decide)) (fun e => absurd e (by decide))
    have z2 := L.ok az
    have z3 : okZ F (addP (kdP F S) 0 (gk F iw f 0 op (advP F S))) := (((a.1.tr L (c := -2) (by decide)).tr (addP_le L.2.1) (c := 0) (by decide))).ok z
    have p1 : (advP F S).2.2.1 = tkN F S.2.2.1 := rfl
    have p2 : (addP (kdP F S) 0 (gk F iw f 0 op (advP F S))).2.2.1 = (gk F iw f 0 op (advP F S)).2.2.1 := rfl
    obtain ⟨l1, l2, l5, l4⟩ := id L
    obtain ⟨y1, y2, y3, y4⟩ := id z2
    refine BX1_readProduct_34 (by first | assumption | exact up_at _ _ _ | (rw [up_ne (by omega)]; first | assumption | exact up_at _ _ _ | (rw [up_ne (by omega)]; first | assumption | exact up_at _ _ _ | (rw [up_ne (by omega)]; assumption)))) (by rfl) ?_
    refine R_X9_comeToNext (by first | omega | assumption | exact okZ.q (by assumption) | (simp only [Ls_len]; omega) | exact Ls_get (by omega) (by omega) | rfl | decide) (by first | omega | assumption | exact okZ.q (by assumption) | (simp only [Ls_len]; omega) | exact Ls_get (by omega) (by omega) | rfl | decide) (by first | omega | assumption | exact okZ.q (by assumption) | (simp only [Ls_len]; omega) | exact Ls_get (by omega) (by omega) | rfl | decide) (by first | omega | assumption | exact okZ.q (by assumption) | (simp only [Ls_len]; omega) | exact Ls_get (by omega) (by omega) | rfl | decide) ?_
    intro h40 v40 r40 e40 y40
    have s := s.adv r40 e40 y40
    obtain ⟨⟨tv, tk, tvv⟩, g1, g2, g3⟩ := id s; have tk1 := tk.1
    refine BX1_readProduct_43 (by first | assumption | exact up_at _ _ _ | (rw [up_ne (by omega)]; first | assumption | exact up_at _ _ _ | (rw [up_ne (by omega)]; first | assumption | exact up_at _ _ _ | (rw [up_ne (by omega)]; assumption)))) ?_
    refine C0 (by first | omega | assumption | exact okZ.q (by assumption) | (simp only [Ls_len]; omega) | exact Ls_get (by omega) (by omega) | rfl | decide) (by first | omega | assumption | exact okZ.q (by assumption) | (simp only [Ls_len]; omega) | exact Ls_get (by omega) (by omega) | rfl | decide) (by first | omega | assumption | exact okZ.q (by assumption) | (simp only [Ls_len]; omega) | exact Ls_get (by omega) (by omega) | rfl | decide) ?_
    intro h45 r45 s45
    have s := s45
    obtain ⟨⟨tv, tk, tvv⟩, g1, g2, g3⟩ := id s; have tk1 := tk.1
    refine BX1_readProduct_48 (by first | assumption | exact up_at _ _ _ | (rw [up_ne (by omega)]; first | assumption | exact up_at _ _ _ | (rw [up_ne (by omega)]; first | assumption | exact up_at _ _ _ | (rw [up_ne (by omega)]; assumption)))) ?_
    refine R_X1_addSign (by first | omega | assumption | exact okZ.q (by assumption) | (simp only [Ls_len]; omega) | exact Ls_get (by omega) (by omega) | rfl | decide) (by first | omega | assumption | exact okZ.q (by assumption) | (simp only [Ls_len]; omega) | exact Ls_get (by omega) (by omega) | rfl | decide) (by first | omega | assumption | exact okZ.q (by assumption) | (simp only [Ls_len]; omega) | exact Ls_get (by omega) (by omega) | rfl | decide) (by first | omega | assumption | exact okZ.q (by assumption) | (simp only [Ls_len]; omega) | exact Ls_get (by omega) (by omega) | rfl | decide) (by first | omega | assumption | exact okZ.q (by assumption) | (simp only [Ls_len]; omega) | exact Ls_get (by omega) (by omega) | rfl | decide) (by first | omega | assumption | exact okZ.q (by assumption) | (simp only [Ls_len]; omega) | exact Ls_get (by omega) (by omega) | rfl | decide) (by first | omega | assumption | exact okZ.q (by assumption) | (simp only [Ls_len]; omega) | exact Ls_get (by omega) (by omega) | rfl | decide) ?_
    intro h51 r51 s51
    refine BX1_readProduct_54 (by first | omega | assumption | exact okZ.q (by assumption) | (simp only [Ls_len]; omega) | exact Ls_get (by omega) (by omega) | rfl | decide) ?_
    exact C2 s51 z3 ⟨by omega, by show _ ≤ (gk F iw f 0 op (advP F S)).2.2.1; omega⟩ (by show (F 2 - (gk F iw f 0 op (advP F S)).2.2.1) * 9 + 0 < _; omega) fun h1 f1 s1 => k h1 ((((r40.wd (by decide) (by decide)).tr r45).tr r51).tr f1) s1
  refine BX1_readProduct_7  ?_ ?_
  · intro hc1
    refine BX1_readProduct_61  ?_
    first
    | (rw [if_neg (kn (by omega))] at k; exact k _ (Fr.rf _ _ _) s)
    | (rw [if_neg (fun q => q.elim (not_se (by assumption)) (not_se (by assumption)))] at k; exact k _ (Fr.rf _ _ _) s)
    | (exfalso; omega)
  · intro hc2
    refine BX1_readProduct_14 (by first | assumption | exact up_at _ _ _ | (rw [up_ne (by omega)]; first | assumption | exact up_at _ _ _ | (rw [up_ne (by omega)]; first | assumption | exact up_at _ _ _ | (rw [up_ne (by omega)]; assumption)))) ?_
    refine R_X1_sees (by first | omega | assumption | exact okZ.q (by assumption) | (simp only [Ls_len]; omega) | exact Ls_get (by omega) (by omega) | rfl | decide) ?_ ?_
    · intro w18
      refine BX1_readProduct_21  ?_ ?_
      · intro hc3
        first | (exfalso; omega) | exact B34 (.inl (by assumption)) (by omega) | exact B34 (.inr (by assumption)) (by omega)
      · intro hc4
        exact absurd hc4 (by decide)
    · intro w18
      refine BX1_readProduct_21  ?_ ?_
      · intro hc5
        exact absurd hc5 (by decide)
      · intro hc6
        refine BX1_readProduct_24 (by first | assumption | exact up_at _ _ _ | (rw [up_ne (by omega)]; first | assumption | exact up_at _ _ _ | (rw [up_ne (by omega)]; first | assumption | exact up_at _ _ _ | (rw [up_ne (by omega)]; assumption)))) ?_
        refine R_X1_sees (by first | omega | assumption | exact okZ.q (by assumption) | (simp only [Ls_len]; omega) | exact Ls_get (by omega) (by omega) | rfl | decide) ?_ ?_
        · intro w28
          refine BX1_readProduct_31  ?_ ?_
          · intro hc7
            exact absurd hc7 (by decide)
          · intro hc8
            first | (exfalso; omega) | exact B34 (.inl (by assumption)) (by omega) | exact B34 (.inr (by assumption)) (by omega)
        · intro w28
          refine BX1_readProduct_31  ?_ ?_
          · intro hc9
            refine BX1_readProduct_61  ?_
            first
            | (rw [if_neg (kn (by omega))] at k; exact k _ (Fr.rf _ _ _) s)
            | (rw [if_neg (fun q => q.elim (not_se (by assumption)) (not_se (by assumption)))] at k; exact k _ (Fr.rf _ _ _) s)
            | (exfalso; omega)
          · intro hc10
            exact absurd hc10 (by decide)
theorem gk_3 (o : okF F) (A : GKA F cc co we cl iw f) : GK3 F cc co we cl iw (f + 1) := by
  intro d bc bs n h Q S r op hop hop0 s z _ ms k
  have C0 := fun {d bc bs n : Nat} {h : aH} {Q : aQ} {S : Ps} (s : Gm h F cc co we cl op iw S) (z : okZ F S) => (A.2.1) d bc bs n h Q S r op hop hop0 s z trivial
  have C2 := fun {i : Int} {l3 : Option aV} {d bc bs n : Nat} {h : aH} {Q : aQ} {S : Ps} => (A.2.2.2.2.1) i l3 d bc bs n h Q S r op hop hop0
  have ek : gk F iw (f + 1) 3 op S = gk F iw f 4 op (gk F iw f 1 op S) := rfl
  rw [ek] at k
  have L : leQ F 0 S (gk F iw f 1 op S) := gk_le o f 1 op S z (fun e => absurd e (by decide)) (fun e => absurd e (by decide))
  have z2 := L.ok z
  obtain ⟨l1, l2, l3, l4⟩ := id L
  have z0 := z.1
  obtain ⟨⟨tv, tk, tvv⟩, g1, g2, g3⟩ := id s; have tk1 := tk.1
  refine BX1_readSum_0 (by first | assumption | exact up_at _ _ _ | (rw [up_ne (by omega)]; first | assumption | exact up_at _ _ _ | (rw [up_ne (by omega)]; first | assumption | exact up_at _ _ _ | (rw [up_ne (by omega)]; assumption)))) ?_
  refine C0 (by first | omega | assumption | exact okZ.q (by assumption) | (simp only [Ls_len]; omega) | exact Ls_get (by omega) (by omega) | rfl | decide) (by first | omega | assumption | exact okZ.q (by assumption) | (simp only [Ls_len]; omega) | exact Ls_get (by omega) (by omega) | rfl | decide) (by first | omega | assumption | exact okZ.q (by assumption) | (simp only [Ls_len]; omega) | exact Ls_get (by omega) (by omega) | rfl | decide) ?_
  intro h2 r2 s2
  refine BX1_readSum_5  ?_
  exact C2 s2 z2 ⟨by decide, by omega⟩ (by omega) fun h1 f1 s1 => k h1 (r2.tr f1) s1
theorem gk_4 (o : okF F) (A : GKA F cc co we cl iw f) : GK4 F cc co we cl iw (f + 1) := by
  intro i l3 d bc bs n h Q S r op hop hop0 s z pre ms k
  have C0 := fun {d bc bs n : Nat} {h : aH} {Q : aQ} {S : Ps} (s : Gm h F cc co we cl op iw S) (z : okZ F S) => (A.2.1) d bc bs n h Q S r op hop hop0 s z trivial
  have C2 := fun {i : Int} {l3 : Option aV} {d bc bs n : Nat} {h : aH} {Q : aQ} {S : Ps} => (A.2.2.2.2.1) i l3 d bc bs n h Q S r op hop hop0
  have ek : gk F iw (f + 1) 4 op S = if seP F 9 S = true ∨ seP F 10 S = true then gk F iw f 4 op (addP (kdP F S) 0 (gk F iw f 1 op (advP F S))) else S := rfl
  rw [ek] at k
  have hk : (seP F 9 S = true ∨ seP F 10 S = true) → (kdP F S = 9 ∨ kdP F S = 10) := fun q => q.imp (fun q => (seP_kd q).2) (fun q => (seP_kd q).2)
  have o1 := o.1
  have z0 := z.1
  have z1 := z.2.1
  have kn : i = 300 → ¬ (seP F 9 S = true ∨ seP F 10 S = true) := fun e q => by
    have q := hk q
    have t : kdP F S = 0 := tk_end (by omega)
    omega
  obtain ⟨⟨tv, tk, tvv⟩, g1, g2, g3⟩ := id s; have tk1 := tk.1
  have kd : kdP F S = tkK F S.2.2.1 := rfl
  have B34 : (seP F 9 S = true ∨ seP F 10 S = true) → i < 300 → Rn (d + 10 * r + 12) bc bs mX1_readSum 34 [some (vR (some 284)), some (vR (some 282)), some (vI i), l3] [] h n Q := by
    intro q hi
    rw [if_pos q] at k
    have q := hk q
    have a := advP_le o z (by omega)
    have az := (a.1.tr (leQ.rf a.1.2.1) (show (-2 : Int) + 0 ≤ 0 by decide)).ok z
    have tn := tkN_gt o z0 z1 (show tkK F S.2.2.1 ≠ 0 by omega)
    have L : leQ F 0 (advP F S) (gk F iw f 1 op (advP F S)) := gk_le o f 1 op _ az (fun e => absurd e (by decide)) (fun e => absurd e (by decide))
    have z2 := L.ok az
    have z3 : okZ F (addP (kdP F S) 0 (gk F iw f 1 op (advP F S))) := (((a.1.tr L (c := -2) (by decide)).tr (addP_le L.2.1) (c := 0) (by decide))).ok z
    have p1 : (advP F S).2.2.1 = tkN F S.2.2.1 := rfl
    have p2 : (addP (kdP F S) 0 (gk F iw f 1 op (advP F S))).2.2.1 = (gk F iw f 1 op (advP F S)).2.2.1 := rfl
    obtain ⟨l1, l2, l5, l4⟩ := id L
    obtain ⟨y1, y2, y3, y4⟩ := id z2
    refine BX1_readSum_34 (by first | assumption | exact up_at _ _ _ | (rw [up_ne (by omega)]; first | assumption | exact up_at _ _ _ | (rw [up_ne (by omega)]; first | assumption | exact up_at _ _ _ | (rw [up_ne (by omega)]; assumption)))) (by rfl) ?_
    refine R_X9_comeToNext (by first | omega | assumption | exact okZ.q (by assumption) | (simp only [Ls_len]; omega) | exact Ls_get (by omega) (by omega) | rfl | decide) (by first | omega | assumption | exact okZ.q (by assumption) | (simp only [Ls_len]; omega) | exact Ls_get (by omega) (by omega) | rfl | decide) (by first | omega | assumption | exact okZ.q (by assumption) | (simp only [Ls_len]; omega) | exact Ls_get (by omega) (by omega) | rfl | decide) (by first | omega | assumption | exact okZ.q (by assumption) | (simp only [Ls_len]; omega) | exact Ls_get (by omega) (by omega) | rfl | decide) ?_
    intro h40 v40 r40 e40 y40
    have s := s.adv r40 e40 y40
    obtain ⟨⟨tv, tk, tvv⟩, g1, g2, g3⟩ := id s; have tk1 := tk.1
    refine BX1_readSum_43 (by first | assumption | exact up_at _ _ _ | (rw [up_ne (by omega)]; first | assumption | exact up_at _ _ _ | (rw [up_ne (by omega)]; first | assumption | exact up_at _ _ _ | (rw [up_ne (by omega)]; assumption)))) ?_
    refine C0 (by first | omega | assumption | exact okZ.q (by assumption) | (simp only [Ls_len]; omega) | exact Ls_get (by omega) (by omega) | rfl | decide) (by first | omega | assumption | exact okZ.q (by assumption) | (simp only [Ls_len]; omega) | exact Ls_get (by omega) (by omega) | rfl | decide) (by first | omega | assumption | exact okZ.q (by assumption) | (simp only [Ls_len]; omega) | exact Ls_get (by omega) (by omega) | rfl | decide) ?_
    intro h45 r45 s45
    have s := s45
    obtain ⟨⟨tv, tk, tvv⟩, g1, g2, g3⟩ := id s; have tk1 := tk.1
    refine BX1_readSum_48 (by first | assumption | exact up_at _ _ _ | (rw [up_ne (by omega)]; first | assumption | exact up_at _ _ _ | (rw [up_ne (by omega)]; first | assumption | exact up_at _ _ _ | (rw [up_ne (by omega)]; assumption)))) ?_
    refine R_X1_addSign (by first | omega | assumption | exact okZ.q (by assumption) | (simp only [Ls_len]; omega) | exact Ls_get (by omega) (by omega) | rfl | decide) (by first | omega | assumption | exact okZ.q (by assumption) | (simp only [Ls_len]; omega) | exact Ls_get (by omega) (by omega) | rfl | decide) (by first | omega | assumption | exact okZ.q (by assumption) | (simp only [Ls_len]; omega) | exact Ls_get (by omega) (by omega) | rfl | decide) (by first | omega | assumption | exact okZ.q (by assumption) | (simp only [Ls_len]; omega) | exact Ls_get (by omega) (by omega) | rfl | decide) (by first | omega | assumption | exact okZ.q (by assumption) | (simp only [Ls_len]; omega) | exact Ls_get (by omega) (by omega) | rfl | decide) (by first | omega | assumption | exact okZ.q (by assumption) | (simp only [Ls_len]; omega) | exact Ls_get (by omega) (by omega) | rfl | decide) (by first | omega | assumption | exact okZ.q (by assumption) | (simp only [Ls_len]; omega) | exact Ls_get (by omega) (by omega) | rfl | decide) ?_
    intro h51 r51 s51
    refine BX1_readSum_54 (by first | omega | assumption | exact okZ.q (by assumption) | (simp only [Ls_len]; omega) | exact Ls_get (by omega) (by omega) | rfl | decide) ?_
    exact C2 s51 z3 ⟨by omega, by show _ ≤ (gk F iw f 1 op (advP F S)).2.2.1; omega⟩ (by show (F 2 - (gk F iw f 1 op (advP F S)).2.2.1) * 9 + 0 < _; omega) fun h1 f1 s1 => k h1 ((((r40.wd (by decide) (by decide)).tr r45).tr r51).tr f1) s1
  refine BX1_readSum_7  ?_ ?_
  · intro hc1
    refine BX1_readSum_61  ?_
    first
    | (rw [if_neg (kn (by omega))] at k; exact k _ (Fr.rf _ _ _) s)
    | (rw [if_neg (fun q => q.elim (not_se (by assumption)) (not_se (by assumption)))] at k; exact k _ (Fr.rf _ _ _) s)
    | (exfalso; omega)
  · intro hc2
    refine BX1_readSum_14 (by first | assumption | exact up_at _ _ _ | (rw [up_ne (by omega)]; first | assumption | exact up_at _ _ _ | (rw [up_ne (by omega)]; first | assumption | exact up_at _ _ _ | (rw [up_ne (by omega)]; assumption)))) ?_
    refine R_X1_sees (by first | omega | assumption | exact okZ.q (by assumption) | (simp only [Ls_len]; omega) | exact Ls_get (by omega) (by omega) | rfl | decide) ?_ ?_
    · intro w18
      refine BX1_readSum_21  ?_ ?_
      · intro hc3
        first | (exfalso; omega) | exact B34 (.inl (by assumption)) (by omega) | exact B34 (.inr (by assumption)) (by omega)
      · intro hc4
        exact absurd hc4 (by decide)
    · intro w18
      refine BX1_readSum_21  ?_ ?_
      · intro hc5
        exact absurd hc5 (by decide)
      · intro hc6
        refine BX1_readSum_24 (by first | assumption | exact up_at _ _ _ | (rw [up_ne (by omega)]; first | assumption | exact up_at _ _ _ | (rw [up_ne (by omega)]; first | assumption | exact up_at _ _ _ | (rw [up_ne (by omega)]; assumption)))) ?_
        refine R_X1_sees (by first | omega | assumption | exact okZ.q (by assumption) | (simp only [Ls_len]; omega) | exact Ls_get (by omega) (by omega) | rfl | decide) ?_ ?_
        · intro w28
          refine BX1_readSum_31  ?_ ?_
          · intro hc7
            exact absurd hc7 (by decide)
          · intro hc8
            first | (exfalso; omega) | exact B34 (.inl (by assumption)) (by omega) | exact B34 (.inr (by assumption)) (by omega)
        · intro w28
          refine BX1_readSum_31  ?_ ?_
          · intro hc9
            refine BX1_readSum_61  ?_
            first
            | (rw [if_neg (kn (by omega))] at k; exact k _ (Fr.rf _ _ _) s)
            | (rw [if_neg (fun q => q.elim (not_se (by assumption)) (not_se (by assumption)))] at k; exact k _ (Fr.rf _ _ _) s)
            | (exfalso; omega)
          · intro hc10
            exact absurd hc10 (by decide)
theorem gk_7 (o : okF F) (A : GKA F cc co we cl iw f) : GK7 F cc co we cl iw (f + 1) := by
  intro d bc bs n h Q S r op hop hop0 s z _ ms k
  have C0 := fun {d bc bs n : Nat} {h : aH} {Q : aQ} {S : Ps} (s : Gm h F cc co we cl op iw S) (z : okZ F S) => (A.2.2.2.2.2.2.1) d bc bs n h Q S r op hop hop0 s z trivial
  have C2 := fun {i : Int} {d bc bs n : Nat} {h : aH} {Q : aQ} {S : Ps} => (A.2.2.2.2.2.2.2.2.1) i d bc bs n h Q S r op hop hop0
  have ek : gk F iw (f + 1) 7 op S = gk F iw f 8 op (gk F iw f 6 op S) := rfl
  rw [ek] at k
  have L : leQ F 0 S (gk F iw f 6 op S) := gk_le o f 6 op S z (fun e => absurd e (by decide)) (fun e => absurd e (by decide))
  have z2 := L.ok z
  obtain ⟨l1, l2, l3, l4⟩ := id L
  have z0 := z.1
  obtain ⟨⟨tv, tk, tvv⟩, g1, g2, g3⟩ := id s; have tk1 := tk.1
  refine BX1_readBoth_0 (by first | assumption | exact up_at _ _ _ | (rw [up_ne (by omega)]; first | assumption | exact up_at _ _ _ | (rw [up_ne (by omega)]; first | assumption | exact up_at _ _ _ | (rw [up_ne (by omega)]; assumption)))) ?_
  refine C0 (by first | omega | assumption | exact okZ.q (by assumption) | (simp only [Ls_len]; omega) | exact Ls_get (by omega) (by omega) | rfl | decide) (by first | omega | assumption | exact okZ.q (by assumption) | (simp only [Ls_len]; omega) | exact Ls_get (by omega) (by omega) | rfl | decide) (by first | omega | assumption | exact okZ.q (by assumption) | (simp only [Ls_len]; omega) | exact Ls_get (by omega) (by omega) | rfl | decide) ?_
  intro h2 r2 s2
  refine BX1_readBoth_5  ?_
  exact C2 s2 z2 ⟨by decide, by omega⟩ (by omega) fun h1 f1 s1 => k h1 (r2.tr f1) s1
theorem gk_8 (o : okF F) (A : GKA F cc co we cl iw f) : GK8 F cc co we cl iw (f + 1) := by
  intro i d bc bs n h Q S r op hop hop0 s z pre ms k
  have C0 := fun {d bc bs n : Nat} {h : aH} {Q : aQ} {S : Ps} (s : Gm h F cc co we cl op iw S) (z : okZ F S) => (A.2.2.2.2.2.2.1) d bc bs n h Q S r op hop hop0 s z trivial
  have C2 := fun {i : Int} {d bc bs n : Nat} {h : aH} {Q : aQ} {S : Ps} => (A.2.2.2.2.2.2.2.2.1) i d bc bs n h Q S r op hop hop0
  have ek : gk F iw (f + 1) 8 op S = if seP F 40 S = true then gk F iw f 8 op (addP 40 0 (gk F iw f 6 op (advP F S))) else S := rfl
  rw [ek] at k
  have hk : seP F 40 S = true → kdP F S = 40 := fun q => (seP_kd q).2
  have o1 := o.1
  have z0 := z.1
  have z1 := z.2.1
  have kn : i = 300 → ¬ seP F 40 S = true := fun e q => by
    have q := hk q
    have t : kdP F S = 0 := tk_end (by omega)
    omega
  obtain ⟨⟨tv, tk, tvv⟩, g1, g2, g3⟩ := id s; have tk1 := tk.1
  have kd : kdP F S = tkK F S.2.2.1 := rfl
  have B24 : seP F 40 S = true → i < 300 → Rn (d + 10 * r + 15) bc bs mX1_readBoth 24 [some (vR (some 284)), some (vR (some 282)), some (vI i)] [] h n Q := by
    intro q hi
    rw [if_pos q] at k
    have q := hk q
    have a := advP_le o z (by omega)
    have az := (a.1.tr (leQ.rf a.1.2.1) (show (-2 : Int) + 0 ≤ 0 by decide)).ok z
    have tn := tkN_gt o z0 z1 (show tkK F S.2.2.1 ≠ 0 by omega)
    have L : leQ F 0 (advP F S) (gk F iw f 6 op (advP F S)) := gk_le o f 6 op _ az (fun e => absurd e (by decide)) (fun e => absurd e (by decide))
    have z2 := L.ok az
    have z3 : okZ F (addP 40 0 (gk F iw f 6 op (advP F S))) := (((a.1.tr L (c := -2) (by decide)).tr (addP_le L.2.1) (c := 0) (by decide))).ok z
    have p1 : (advP F S).2.2.1 = tkN F S.2.2.1 := rfl
    have p2 : (addP 40 0 (gk F iw f 6 op (advP F S))).2.2.1 = (gk F iw f 6 op (advP F S)).2.2.1 := rfl
    obtain ⟨l1, l2, l5, l4⟩ := id L
    obtain ⟨y1, y2, y3, y4⟩ := id z2
    refine BX1_readBoth_24 (by first | assumption | exact up_at _ _ _ | (rw [up_ne (by omega)]; first | assumption | exact up_at _ _ _ | (rw [up_ne (by omega)]; first | assumption | exact up_at _ _ _ | (rw [up_ne (by omega)]; assumption)))) ?_
    refine R_X9_comeToNext (by first | omega | assumption | exact okZ.q (by assumption) | (simp only [Ls_len]; omega) | exact Ls_get (by omega) (by omega) | rfl | decide) (by first | omega | assumption | exact okZ.q (by assumption) | (simp only [Ls_len]; omega) | exact Ls_get (by omega) (by omega) | rfl | decide) (by first | omega | assumption | exact okZ.q (by assumption) | (simp only [Ls_len]; omega) | exact Ls_get (by omega) (by omega) | rfl | decide) (by first | omega | assumption | exact okZ.q (by assumption) | (simp only [Ls_len]; omega) | exact Ls_get (by omega) (by omega) | rfl | decide) ?_
    intro h25 v25 r25 e25 y25
    have s := s.adv r25 e25 y25
    obtain ⟨⟨tv, tk, tvv⟩, g1, g2, g3⟩ := id s; have tk1 := tk.1
    refine BX1_readBoth_28 (by first | assumption | exact up_at _ _ _ | (rw [up_ne (by omega)]; first | assumption | exact up_at _ _ _ | (rw [up_ne (by omega)]; first | assumption | exact up_at _ _ _ | (rw [up_ne (by omega)]; assumption)))) ?_
    refine C0 (by first | omega | assumption | exact okZ.q (by assumption) | (simp only [Ls_len]; omega) | exact Ls_get (by omega) (by omega) | rfl | decide) (by first | omega | assumption | exact okZ.q (by assumption) | (simp only [Ls_len]; omega) | exact Ls_get (by omega) (by omega) | rfl | decide) (by first | omega | assumption | exact okZ.q (by assumption) | (simp only [Ls_len]; omega) | exact Ls_get (by omega) (by omega) | rfl | decide) ?_
    intro h30 r30 s30
    have s := s30
    obtain ⟨⟨tv, tk, tvv⟩, g1, g2, g3⟩ := id s; have tk1 := tk.1
    refine BX1_readBoth_33 (by first | assumption | exact up_at _ _ _ | (rw [up_ne (by omega)]; first | assumption | exact up_at _ _ _ | (rw [up_ne (by omega)]; first | assumption | exact up_at _ _ _ | (rw [up_ne (by omega)]; assumption)))) ?_
    refine R_X1_addSign (by first | omega | assumption | exact okZ.q (by assumption) | (simp only [Ls_len]; omega) | exact Ls_get (by omega) (by omega) | rfl | decide) (by first | omega | assumption | exact okZ.q (by assumption) | (simp only [Ls_len]; omega) | exact Ls_get (by omega) (by omega) | rfl | decide) (by first | omega | assumption | exact okZ.q (by assumption) | (simp only [Ls_len]; omega) | exact Ls_get (by omega) (by omega) | rfl | decide) (by first | omega | assumption | exact okZ.q (by assumption) | (simp only [Ls_len]; omega) | exact Ls_get (by omega) (by omega) | rfl | decide) (by first | omega | assumption | exact okZ.q (by assumption) | (simp only [Ls_len]; omega) | exact Ls_get (by omega) (by omega) | rfl | decide) (by first | omega | assumption | exact okZ.q (by assumption) | (simp only [Ls_len]; omega) | exact Ls_get (by omega) (by omega) | rfl | decide) (by first | omega | assumption | exact okZ.q (by assumption) | (simp only [Ls_len]; omega) | exact Ls_get (by omega) (by omega) | rfl | decide) ?_
    intro h37 r37 s37
    refine BX1_readBoth_40 (by first | omega | assumption | exact okZ.q (by assumption) | (simp only [Ls_len]; omega) | exact Ls_get (by omega) (by omega) | rfl | decide) ?_
    exact C2 s37 z3 ⟨by omega, by show _ ≤ (gk F iw f 6 op (advP F S)).2.2.1; omega⟩ (by show (F 2 - (gk F iw f 6 op (advP F S)).2.2.1) * 9 + 0 < _; omega) fun h1 f1 s1 => k h1 ((((r25.wd (by decide) (by decide)).tr r30).tr r37).tr f1) s1
  refine BX1_readBoth_7  ?_ ?_
  · intro hc1
    refine BX1_readBoth_47  ?_
    first
    | (rw [if_neg (kn (by omega))] at k; exact k _ (Fr.rf _ _ _) s)
    | (rw [if_neg (not_se (by assumption))] at k; exact k _ (Fr.rf _ _ _) s)
    | (exfalso; omega)
  · intro hc2
    refine BX1_readBoth_14 (by first | assumption | exact up_at _ _ _ | (rw [up_ne (by omega)]; first | assumption | exact up_at _ _ _ | (rw [up_ne (by omega)]; first | assumption | exact up_at _ _ _ | (rw [up_ne (by omega)]; assumption)))) ?_
    refine R_X1_sees (by first | omega | assumption | exact okZ.q (by assumption) | (simp only [Ls_len]; omega) | exact Ls_get (by omega) (by omega) | rfl | decide) ?_ ?_
    · intro w18
      refine BX1_readBoth_21  ?_ ?_
      · intro hc3
        exact absurd hc3 (by decide)
      · intro hc4
        first | (exfalso; omega) | exact B24 (by assumption) (by omega)
    · intro w18
      refine BX1_readBoth_21  ?_ ?_
      · intro hc5
        refine BX1_readBoth_47  ?_
        first
        | (rw [if_neg (kn (by omega))] at k; exact k _ (Fr.rf _ _ _) s)
        | (rw [if_neg (not_se (by assumption))] at k; exact k _ (Fr.rf _ _ _) s)
        | (exfalso; omega)
      · intro hc6
        exact absurd hc6 (by decide)
theorem gk_9 (o : okF F) (A : GKA F cc co we cl iw f) : GK9 F cc co we cl iw (f + 1) := by
  intro d bc bs n h Q S r op hop hop0 s z _ ms k
  have C0 := fun {d bc bs n : Nat} {h : aH} {Q : aQ} {S : Ps} (s : Gm h F cc co we cl op iw S) (z : okZ F S) => (A.2.2.2.2.2.2.2.1) d bc bs n h Q S r op hop hop0 s z trivial
  have C2 := fun {i : Int} {d bc bs n : Nat} {h : aH} {Q : aQ} {S : Ps} => (A.2.2.2.2.2.2.2.2.2.2.1) i d bc bs n h Q S r op hop hop0
  have ek : gk F iw (f + 1) 9 op S = gk F iw f 10 op (gk F iw f 7 op S) := rfl
  rw [ek] at k
  have L : leQ F 0 S (gk F iw f 7 op S) := gk_le o f 7 op S z (fun e => absurd e (by decide)) (fun e => absurd e (by decide))
  have z2 := L.ok z
  obtain ⟨l1, l2, l3, l4⟩ := id L
  have z0 := z.1
  obtain ⟨⟨tv, tk, tvv⟩, g1, g2, g3⟩ := id s; have tk1 := tk.1
  refine BX1_readEither_0 (by first | assumption | exact up_at _ _ _ | (rw [up_ne (by omega)]; first | assumption | exact up_at _ _ _ | (rw [up_ne (by omega)]; first | assumption | exact up_at _ _ _ | (rw [up_ne (by omega)]; assumption)))) ?_
  refine C0 (by first | omega | assumption | exact okZ.q (by assumption) | (simp only [Ls_len]; omega) | exact Ls_get (by omega) (by omega) | rfl | decide) (by first | omega | assumption | exact okZ.q (by assumption) | (simp only [Ls_len]; omega) | exact Ls_get (by omega) (by omega) | rfl | decide) (by first | omega | assumption | exact okZ.q (by assumption) | (simp only [Ls_len]; omega) | exact Ls_get (by omega) (by omega) | rfl | decide) ?_
  intro h2 r2 s2
  refine BX1_readEither_5  ?_
  exact C2 s2 z2 ⟨by decide, by omega⟩ (by omega) fun h1 f1 s1 => k h1 (r2.tr f1) s1
theorem gk_10 (o : okF F) (A : GKA F cc co we cl iw f) : GK10 F cc co we cl iw (f + 1) := by
  intro i d bc bs n h Q S r op hop hop0 s z pre ms k
  have C0 := fun {d bc bs n : Nat} {h : aH} {Q : aQ} {S : Ps} (s : Gm h F cc co we cl op iw S) (z : okZ F S) => (A.2.2.2.2.2.2.2.1) d bc bs n h Q S r op hop hop0 s z trivial
  have C2 := fun {i : Int} {d bc bs n : Nat} {h : aH} {Q : aQ} {S : Ps} => (A.2.2.2.2.2.2.2.2.2.2.1) i d bc bs n h Q S r op hop hop0
  have ek : gk F iw (f + 1) 10 op S = if seP F 39 S = true then gk F iw f 10 op (addP 39 0 (gk F iw f 7 op (advP F S))) else S := rfl
  rw [ek] at k
  have hk : seP F 39 S = true → kdP F S = 39 := fun q => (seP_kd q).2
  have o1 := o.1
  have z0 := z.1
  have z1 := z.2.1
  have kn : i = 300 → ¬ seP F 39 S = true := fun e q => by
    have q := hk q
    have t : kdP F S = 0 := tk_end (by omega)
    omega
  obtain ⟨⟨tv, tk, tvv⟩, g1, g2, g3⟩ := id s; have tk1 := tk.1
  have kd : kdP F S = tkK F S.2.2.1 := rfl
  have B24 : seP F 39 S = true → i < 300 → Rn (d + 10 * r + 16) bc bs mX1_readEither 24 [some (vR (some 284)), some (vR (some 282)), some (vI i)] [] h n Q := by
    intro q hi
    rw [if_pos q] at k
    have q := hk q
    have a := advP_le o z (by omega)
    have az := (a.1.tr (leQ.rf a.1.2.1) (show (-2 : Int) + 0 ≤ 0 by decide)).ok z
    have tn := tkN_gt o z0 z1 (show tkK F S.2.2.1 ≠ 0 by omega)
    have L : leQ F 0 (advP F S) (gk F iw f 7 op (advP F S)) := gk_le o f 7 op _ az (fun e => absurd e (by decide)) (fun e => absurd e (by decide))
    have z2 := L.ok az
    have z3 : okZ F (addP 39 0 (gk F iw f 7 op (advP F S))) := (((a.1.tr L (c := -2) (by decide)).tr (addP_le L.2.1) (c := 0) (by decide))).ok z
    have p1 : (advP F S).2.2.1 = tkN F S.2.2.1 := rfl
    have p2 : (addP 39 0 (gk F iw f 7 op (advP F S))).2.2.1 = (gk F iw f 7 op (advP F S)).2.2.1 := rfl
    obtain ⟨l1, l2, l5, l4⟩ := id L
    obtain ⟨y1, y2, y3, y4⟩ := id z2
    refine BX1_readEither_24 (by first | assumption | exact up_at _ _ _ | (rw [up_ne (by omega)]; first | assumption | exact up_at _ _ _ | (rw [up_ne (by omega)]; first | assumption | exact up_at _ _ _ | (rw [up_ne (by omega)]; assumption)))) ?_
    refine R_X9_comeToNext (by first | omega | assumption | exact okZ.q (by assumption) | (simp only [Ls_len]; omega) | exact Ls_get (by omega) (by omega) | rfl | decide) (by first | omega | assumption | exact okZ.q (by assumption) | (simp only [Ls_len]; omega) | exact Ls_get (by omega) (by omega) | rfl | decide) (by first | omega | assumption | exact okZ.q (by assumption) | (simp only [Ls_len]; omega) | exact Ls_get (by omega) (by omega) | rfl | decide) (by first | omega | assumption | exact okZ.q (by assumption) | (simp only [Ls_len]; omega) | exact Ls_get (by omega) (by omega) | rfl | decide) ?_
    intro h25 v25 r25 e25 y25
    have s := s.adv r25 e25 y25
    obtain ⟨⟨tv, tk, tvv⟩, g1, g2, g3⟩ := id s; have tk1 := tk.1
    refine BX1_readEither_28 (by first | assumption | exact up_at _ _ _ | (rw [up_ne (by omega)]; first | assumption | exact up_at _ _ _ | (rw [up_ne (by omega)]; first | assumption | exact up_at _ _ _ | (rw [up_ne (by omega)]; assumption)))) ?_
    refine C0 (by first | omega | assumption | exact okZ.q (by assumption) | (simp only [Ls_len]; omega) | exact Ls_get (by omega) (by omega) | rfl | decide) (by first | omega | assumption | exact okZ.q (by assumption) | (simp only [Ls_len]; omega) | exact Ls_get (by omega) (by omega) | rfl | decide) (by first | omega | assumption | exact okZ.q (by assumption) | (simp only [Ls_len]; omega) | exact Ls_get (by omega) (by omega) | rfl | decide) ?_
    intro h30 r30 s30
    have s := s30
    obtain ⟨⟨tv, tk, tvv⟩, g1, g2, g3⟩ := id s; have tk1 := tk.1
    refine BX1_readEither_33 (by first | assumption | exact up_at _ _ _ | (rw [up_ne (by omega)]; first | assumption | exact up_at _ _ _ | (rw [up_ne (by omega)]; first | assumption | exact up_at _ _ _ | (rw [up_ne (by omega)]; assumption)))) ?_
    refine R_X1_addSign (by first | omega | assumption | exact okZ.q (by assumption) | (simp only [Ls_len]; omega) | exact Ls_get (by omega) (by omega) | rfl | decide) (by first | omega | assumption | exact okZ.q (by assumption) | (simp only [Ls_len]; omega) | exact Ls_get (by omega) (by omega) | rfl | decide) (by first | omega | assumption | exact okZ.q (by assumption) | (simp only [Ls_len]; omega) | exact Ls_get (by omega) (by omega) | rfl | decide) (by first | omega | assumption | exact okZ.q (by assumption) | (simp only [Ls_len]; omega) | exact Ls_get (by omega) (by omega) | rfl | decide) (by first | omega | assumption | exact okZ.q (by assumption) | (simp only [Ls_len]; omega) | exact Ls_get (by omega) (by omega) | rfl | decide) (by first | omega | assumption | exact okZ.q (by assumption) | (simp only [Ls_len]; omega) | exact Ls_get (by omega) (by omega) | rfl | decide) (by first | omega | assumption | exact okZ.q (by assumption) | (simp only [Ls_len]; omega) | exact Ls_get (by omega) (by omega) | rfl | decide) ?_
    intro h37 r37 s37
    refine BX1_readEither_40 (by first | omega | assumption | exact okZ.q (by assumption) | (simp only [Ls_len]; omega) | exact Ls_get (by omega) (by omega) | rfl | decide) ?_
    exact C2 s37 z3 ⟨by omega, by show _ ≤ (gk F iw f 7 op (advP F S)).2.2.1; omega⟩ (by show (F 2 - (gk F iw f 7 op (advP F S)).2.2.1) * 9 + 0 < _; omega) fun h1 f1 s1 => k h1 ((((r25.wd (by decide) (by decide)).tr r30).tr r37).tr f1) s1
  refine BX1_readEither_7  ?_ ?_
  · intro hc1
    refine BX1_readEither_47  ?_
    first
    | (rw [if_neg (kn (by omega))] at k; exact k _ (Fr.rf _ _ _) s)
    | (rw [if_neg (not_se (by assumption))] at k; exact k _ (Fr.rf _ _ _) s)
    | (exfalso; omega)
  · intro hc2
    refine BX1_readEither_14 (by first | assumption | exact up_at _ _ _ | (rw [up_ne (by omega)]; first | assumption | exact up_at _ _ _ | (rw [up_ne (by omega)]; first | assumption | exact up_at _ _ _ | (rw [up_ne (by omega)]; assumption)))) ?_
    refine R_X1_sees (by first | omega | assumption | exact okZ.q (by assumption) | (simp only [Ls_len]; omega) | exact Ls_get (by omega) (by omega) | rfl | decide) ?_ ?_
    · intro w18
      refine BX1_readEither_21  ?_ ?_
      · intro hc3
        exact absurd hc3 (by decide)
      · intro hc4
        first | (exfalso; omega) | exact B24 (by assumption) (by omega)
    · intro w18
      refine BX1_readEither_21  ?_ ?_
      · intro hc5
        refine BX1_readEither_47  ?_
        first
        | (rw [if_neg (kn (by omega))] at k; exact k _ (Fr.rf _ _ _) s)
        | (rw [if_neg (not_se (by assumption))] at k; exact k _ (Fr.rf _ _ _) s)
        | (exfalso; omega)
      · intro hc6
        exact absurd hc6 (by decide)
end GKK
