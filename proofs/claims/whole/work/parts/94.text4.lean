/-! A text read: the call. -/
def q0C (sc : Int) (sg cl : Int → Int) : Cs := ((0, -1, 0, sc, sg), cl, 0, none, none)
def codeD (L : Lw) : Dn := fun env pl => (runC L.2 env pl L.1 (L.1 + 1) 0 []).getD 0
def WfL (L : Lw) : Prop := okL L.2 L.1 ∧ ∀ env pl, okE env pl → ∃ v, runC L.2 env pl L.1 (L.1 + 1) 0 [] = some v
def WfT (F : Int → Int) : Prop := ∀ sc sg cl, (alP F 25 (q0C sc sg cl)).1.1 = 0 → (∀ L, (alP F 25 (q0C sc sg cl)).2.2.2.1 = some L → WfL L) ∧ (∀ L, (alP F 25 (q0C sc sg cl)).2.2.2.2 = some L → WfL L) ∧ 0 ≤ (alP F 25 (q0C sc sg cl)).2.2.1 ∧ (alP F 25 (q0C sc sg cl)).2.2.1 ≤ 24
def mkT (q : Cs) : Tx := (q.2.2.1, padG 96 q.2.1, q.2.2.2.1.map codeD, q.2.2.2.2.map codeD)
def txF (F : Int → Int) (fa pl : Int) : Int → Int := fset (fset (fset F 2 0) 0 fa) 1 (if fa = 0 then -1 else pl)
theorem WfL.code {L : Lw} (w : WfL L) : CodeC L.2 L.1 (codeD L) := by
  refine ⟨w.1, fun env pl e => ?_⟩
  obtain ⟨v, hv⟩ := w.2 env pl e
  refine ⟨L.1 + 1, ?_⟩
  unfold codeD
  rw [hv]
  rfl
section TEXT5
variable {d bc bs n : Nat} {g h : aH} {Q : aQ} {F : Int → Int} {W V : Int → Int → Int} {X : Int → Tx}
theorem R_X1_readAll (tp : IsTp h F) (gr : IsGr h) (o : okF F) (hn : 317 ≤ n) (kn : ∀ sc sg cl, (alP F 25 (q0C sc sg cl)).1.1 ≠ 0 → ∀ h1 n1, n ≤ n1 → FrN h h1 282 5 n → GmE h1 F (alP F 25 (q0C sc sg cl)).1.1 (alP F 25 (q0C sc sg cl)).1.2.1 → Q (some (vR none)) h1 n1) (ky : ∀ sc sg cl, (alP F 25 (q0C sc sg cl)).1.1 = 0 → ∀ h1 x, FrN h h1 282 5 n → TxR h1 n x (alP F 25 (q0C sc sg cl)) → GmE h1 F (alP F 25 (q0C sc sg cl)).1.1 (alP F 25 (q0C sc sg cl)).1.2.1 → Q (some (vR (some x))) h1 (x + 2)) : Rn (d + 120) 4 2103 mX1_readAll 0 [some (vR (some 284)), some (vR (some 282)), none] [] h n Q := by
  obtain ⟨n1, n2, n3, n4, t1, t2⟩ := tp
  obtain ⟨m1, m2, m3, m4, c, w, m5, m6, cl, sg, g1, g2, g3⟩ := gr
  have f9 := Fr.one h 284 (cO 1 [vR (some 285), vR (some 286), vI 0, vI m2, vI 0, vI m4, vR none, vR none, vI 0, vI (-1)])
  have tk : IsTk (up h 284 (cO 1 [vR (some 285), vR (some 286), vI 0, vI m2, vI 0, vI m4, vR none, vR none, vI 0, vI (-1)])) F n1 n2 n3 n4 := ⟨(up_ne (by decide)).trans t1, (up_ne (by decide)).trans t2⟩
  have tk1 := tk.1
  refine BX1_readAll_0 (by first | assumption | exact up_at _ _ _ | (rw [up_ne (by omega)]; first | assumption | exact up_at _ _ _ | (rw [up_ne (by omega)]; first | assumption | exact up_at _ _ _ | (rw [up_ne (by omega)]; assumption)))) (by simp) ?_
  refine BX1_readAll_5 (by first | assumption | exact up_at _ _ _ | (rw [up_ne (by omega)]; first | assumption | exact up_at _ _ _ | (rw [up_ne (by omega)]; first | assumption | exact up_at _ _ _ | (rw [up_ne (by omega)]; assumption)))) (by simp) ?_
  refine BX1_readAll_10 (by first | assumption | exact up_at _ _ _ | (rw [up_ne (by omega)]; first | assumption | exact up_at _ _ _ | (rw [up_ne (by omega)]; first | assumption | exact up_at _ _ _ | (rw [up_ne (by omega)]; assumption)))) (by simp) ?_
  refine BX1_readAll_15 (by first | assumption | exact up_at _ _ _ | (rw [up_ne (by omega)]; first | assumption | exact up_at _ _ _ | (rw [up_ne (by omega)]; first | assumption | exact up_at _ _ _ | (rw [up_ne (by omega)]; assumption)))) (by simp) ?_
  refine BX1_readAll_20 (by first | assumption | exact up_at _ _ _ | (rw [up_ne (by omega)]; first | assumption | exact up_at _ _ _ | (rw [up_ne (by omega)]; first | assumption | exact up_at _ _ _ | (rw [up_ne (by omega)]; assumption)))) (by simp) ?_
  refine BX1_readAll_25 (by first | assumption | exact up_at _ _ _ | (rw [up_ne (by omega)]; first | assumption | exact up_at _ _ _ | (rw [up_ne (by omega)]; first | assumption | exact up_at _ _ _ | (rw [up_ne (by omega)]; assumption)))) (by simp) ?_
  rw [up_up, up_up, up_up, up_up, up_up]
  refine BX1_readAll_30 (by first | assumption | exact up_at _ _ _ | (rw [up_ne (by omega)]; first | assumption | exact up_at _ _ _ | (rw [up_ne (by omega)]; first | assumption | exact up_at _ _ _ | (rw [up_ne (by omega)]; assumption)))) ?_
  refine R_X9_comeToFirst (by first | omega | assumption | (simp only [Ls_len]; omega) | exact Ls_get (by omega) (by omega) | rfl | decide) (by first | omega | assumption | (simp only [Ls_len]; omega) | exact Ls_get (by omega) (by omega) | rfl | decide) ?_
  intro h31 v31 r31 e31 y31
  refine BX1_readAll_34  ?_
  have s : Gm h31 F (q0C m2 sg cl).2.2.1 none none (q0C m2 sg cl).2.1 0 m4 (q0C m2 sg cl).1 := ⟨⟨v31, e31, y31⟩, (r31 _ (by decide)).trans (up_at _ _ _), (r31 _ (by decide)).trans ((up_ne (by decide)).trans g2), (r31 _ (by decide)).trans ((up_ne (by decide)).trans g3)⟩
  have fr : FrN h h31 282 5 n := ((f9.wd (by decide) (by decide)).tr (r31.wd (by decide) (by decide))).toN
  exact Rn.deep (d := d + 110) (by omega) (readLoop o hn 25 0 n h31 (q0C m2 sg cl) none none m4 (by decide) (Nat.le_refl _) fr s trivial trivial ⟨z00, o.1.1, trivial⟩ z00 z00 (.inl (by show (0 : Int) ≤ 24; decide)) (kn m2 sg cl) (ky m2 sg cl) 4 2103 (by rw [show lwC (q0C m2 sg cl) = 2 from rfl]) (by rw [show lwC (q0C m2 sg cl) = 2 from rfl]))
theorem lawAt_of {n0 m : Nat} {a : Option Nat} {L : Option Lw} (hn : 317 ≤ n0) (s : LwAt h n0 m a L) (w : ∀ l, L = some l → WfL l) : LawAt h a (L.map codeD) := by
  rcases a with _ | a <;> rcases L with _ | L <;> first | exact s | exact s.elim | skip
  exact ⟨by have := s.1; omega, L.2, L.1, s.2.2, (w L rfl).code⟩
theorem TxR.is {x : Nat} {q : Cs} (hn : 317 ≤ n) (s : TxR h n x q) (c0 : 0 ≤ q.2.2.1) (c1 : q.2.2.1 ≤ 24) (w1 : ∀ L, q.2.2.2.1 = some L → WfL L) (w2 : ∀ L, q.2.2.2.2 = some L → WfL L) : IsTx h x (mkT q) := by
  obtain ⟨s1, ca, wa, s2, s3, s4, s5⟩ := s
  refine ⟨by omega, x + 1, ca, wa, q.2.2.1.toNat, s2, by omega, by show (q.2.2.1.toNat : Int) = q.2.2.1; omega, ?_, by omega, lawAt_of hn s4 w1, lawAt_of hn s5 w2⟩
  rw [s3]
  congr 2
  omega
theorem IsPo.obj {F2 : Int → Int} (s : IsPo g h W V X F) (e : ∀ j, 2 ≤ j → F2 j = F j) : IsPo g (up h 1 (poF F2)) W V X F2 := by
  have f := Fr.one h 1 (poF F2)
  obtain ⟨s0, s1, s2, s3, s4, s5, ⟨l, s6⟩, s7, s8, G, s9⟩ := s
  obtain ⟨n1, n2, n3, n4, t1, t2⟩ := s4.fr f (by decide)
  exact ⟨s0.fr f (by decide) (by decide), up_at _ _ _, s2.fr f (by decide) (by decide), s3.fr f (by decide) (by decide), ⟨n1, n2, n3, n4, by rw [e 2 (by decide)]; exact t1, by rw [t2]; exact congrArg cI (Ls_ext fun j j0 j1 => (e (3 + j) (by omega)).symm)⟩, s5.fr f (by decide), ⟨l, s6.fr f (by decide)⟩, s7.fr f (by decide), s8.fr f (by decide), G, s9.fr f (by decide)⟩
theorem text24 {r : Option Nat} {fa pl : Int} (s : IsPo g h W V X F) (ge : GmE h F fa pl) (k : ∀ h2, (∀ x, 317 ≤ x → h2 x = h x) → IsPo g h2 W V X (txF F fa pl) → Rn (d + 130) bc bs mX12_text 69 [some (vR (some 1)), some (vR r)] [] h2 n Q) : Rn (d + 130) bc bs mX12_text 24 [some (vR (some 1)), none] [vR r] h n Q := by
  have p1 : h 1 = poF F := s.2.1
  obtain ⟨cc, ca, wa, cl, iw, S, ⟨⟨v, tk, tv⟩, g1, g2, g3⟩, e1, e2⟩ := ge
  have tk1 := tk.1
  have r1 := Fr.one h 282 (cO 9 [vR (some 283), vI 0, vI (tkK F S.2.2.1), vI (tkS F S.2.2.1), vI v, vI (tkN F S.2.2.1)])
  have s2 : IsPo g (up h 282 (cO 9 [vR (some 283), vI 0, vI (tkK F S.2.2.1), vI (tkS F S.2.2.1), vI v, vI (tkN F S.2.2.1)])) W V X (fset F 2 0) := s.tap (r1.wd (by decide) (by decide)) ⟨_, _, _, _, by rw [up_at, fset_at], by rw [up_ne (by decide), tk.2]; exact congrArg cI (Ls_ext fun j j0 j1 => by show F (3 + j) = fset F 2 0 (3 + j); rw [fset_ne (by omega)])⟩ (fset_ne (by decide)) (fset_ne (by decide))
  have g1' : up h 282 (cO 9 [vR (some 283), vI 0, vI (tkK F S.2.2.1), vI (tkS F S.2.2.1), vI v, vI (tkN F S.2.2.1)]) 284 = _ := (up_ne (by decide)).trans g1
  refine BX12_text_24 p1 rfl tk1 (by simp) ?_
  have s3 := s2.obj (F2 := fset (fset F 2 0) 0 S.1) (fun j hj => fset_ne (by omega))
  have p3 : up (up h 282 (cO 9 [vR (some 283), vI 0, vI (tkK F S.2.2.1), vI (tkS F S.2.2.1), vI v, vI (tkN F S.2.2.1)])) 1 (poF (fset (fset F 2 0) 0 S.1)) 284 = _ := (up_ne (by decide)).trans g1'
  refine BX12_text_33 s2.2.1 rfl g1' rfl (by simp) ?_
  have q3 : cO 12 ([vR (some 2), vR (some 142), vR (some 282), vR (some 284), vR (some 287), vR (some 289), vR (some 292), vR (some 297), vI (fset F 2 0 0), vI (fset F 2 0 1)].set 8 (vI S.1)) = poF (fset (fset F 2 0) 0 S.1) := by
    unfold poF
    rw [fset_at, fset_ne (show (1 : Int) ≠ 0 by decide)]
    rfl
  show Rn _ _ _ _ 44 _ _ (up (up h 282 _) 1 (cO 12 ([vR (some 2), vR (some 142), vR (some 282), vR (some 284), vR (some 287), vR (some 289), vR (some 292), vR (some 297), vI (fset F 2 0 0), vI (fset F 2 0 1)].set 8 (vI S.1)))) _ _
  rw [q3]
  have q4 : ∀ z : Int, cO 12 ([vR (some 2), vR (some 142), vR (some 282), vR (some 284), vR (some 287), vR (some 289), vR (some 292), vR (some 297), vI (fset (fset F 2 0) 0 S.1 0), vI (fset (fset F 2 0) 0 S.1 1)].set 9 (vI z)) = poF (fset (fset (fset F 2 0) 0 S.1) 1 z) := by
    intro z
    unfold poF
    rw [fset_at (fset (fset F 2 0) 0 S.1) 1 z, fset_ne (f := fset (fset F 2 0) 0 S.1) (show (0 : Int) ≠ 1 by decide)]
    rfl
  refine BX12_text_44 s3.2.1 rfl p3 rfl ?_ ?_
  · intro e
    refine BX12_text_59 s3.2.1 rfl p3 rfl s3.2.1 (by simp) ?_
    rw [q4, up_up]
    have s5 := s2.obj (F2 := fset (fset (fset F 2 0) 0 S.1) 1 S.2.1) (fun j hj => by rw [fset_ne (by omega), fset_ne (by omega)])
    refine k _ (fun x hx => (up_ne (by omega)).trans (up_ne (by omega))) ?_
    rw [txF, if_neg (by omega), ← e1, ← e2]
    exact s5
  · intro e
    refine BX12_text_55 s3.2.1 (by simp) ?_
    rw [q4, up_up]
    have s5 := s2.obj (F2 := fset (fset (fset F 2 0) 0 S.1) 1 (-1)) (fun j hj => by rw [fset_ne (by omega), fset_ne (by omega)])
    refine k _ (fun x hx => (up_ne (by omega)).trans (up_ne (by omega))) ?_
    rw [txF, if_pos (by omega), ← e1]
    exact s5
theorem IsTx.hi {h1 : aH} {x : Nat} {T : Tx} (s : IsTx h x T) (e : ∀ x, 317 ≤ x → h1 x = h x) : IsTx h1 x T := by
  obtain ⟨s1, rc, oc, ow, m, s2, s3, s4, s5, s6, s7, s8⟩ := s
  have L : ∀ {a : Option Nat} {D : Option Dn}, LawAt h a D → LawAt h1 a D := by
    intro a D w
    rcases a with _ | c <;> rcases D with _ | D <;> first | exact w | skip
    obtain ⟨w1, L, len, w2, w3⟩ := w
    exact ⟨w1, L, len, (e _ w1).trans w2, w3⟩
  exact ⟨s1, rc, oc, ow, m, (e _ s1).trans s2, s3, s4, (e _ s3).trans s5, s6, L s7, L s8⟩
theorem GmE.tp {fa pl : Int} (s : GmE h F fa pl) : IsTp h F ∧ IsGr h := by
  obtain ⟨cc, ca, wa, cl, iw, S, ⟨⟨v, tk, tv⟩, g1, g2, g3⟩, e1, e2⟩ := s
  exact ⟨tk.is, _, _, _, _, _, _, _, _, _, _, g1, g2, g3⟩
theorem P_text (s : IsPo g h W V X F) (ok : okW W) (o : okF F) (wf : WfT F) (hn : 317 ≤ n) (hv : V 3 1 ≤ W 3 1) (k4 : 4 ≤ W 3 1 → ∀ h1, IsPo g h1 W V X F → Q (some (vI (-1))) h1 n) (kn : W 3 1 < 4 → ∀ sc sg cl, (alP F 25 (q0C sc sg cl)).1.1 ≠ 0 → ∀ h1 n1, n ≤ n1 → IsPo g h1 W V X (txF F (alP F 25 (q0C sc sg cl)).1.1 (alP F 25 (q0C sc sg cl)).1.2.1) → Q (some (vI (-1))) h1 n1) (ky : W 3 1 < 4 → ∀ sc sg cl, (alP F 25 (q0C sc sg cl)).1.1 = 0 → ∀ h1 n1, n ≤ n1 → IsPo g h1 (fset W 3 (fset (W 3) 1 (W 3 1 + 1))) V (fset X (W 3 1) (mkT (alP F 25 (q0C sc sg cl)))) (txF F 0 0) → Q (some (vI (W 3 1))) h1 n1) : Rn (d + 130) 4 2103 mX12_text 0 [some (vR (some 1)), none] [] h n Q := by
  refine Rn.dry fun dry => ?_
  obtain ⟨fp, p1, w, v, tp, gr, ⟨lx, la⟩, ro, ri, Gx, gl⟩ := id s; have w1 := w.1; have sh := w.2.1; have se := w.2.2.1; obtain ⟨Ts, ps, st, ste⟩ := w.2.2.2.1; have sa := w.2.2.2.2.1; have sh1 := sh.1; have se1 := se.1; have st1 := st.1; have sa1 := sa.1; obtain ⟨tl, la1⟩ := la.ob; have gl1 := gl.1; have bk0 := se.2.2; have bk1 := bk0.1
  obtain ⟨o1, o2, o3, o4, o5⟩ := id ok; have o11 := o1.1; have o21 := o2.1; have o51 := o5.1; have o52 := o5.2.1; have o53 := o5.2.2.1; have o54 := o5.2.2.2.1
  refine BX12_text_0 p1 rfl w1 rfl ?_ ?_
  · intro h4
    obtain ⟨m1, m2, m3, m4, c, w', m5, m6, cl, sg, gg, -, -⟩ := id gr
    refine BX12_text_13 (bc1 := 4) (bs1 := 2103) (bc := 0) (bs := 0) p1 rfl rfl gg ?_
    refine Rn.deep (d := d + 120) (by omega) (R_X1_readAll tp gr o hn (fun sc sg cl hf h1 n1 hn1 f ge => ?_) (fun sc sg cl hf h1 x f tx ge => ?_))
    · have s2 := s.made hn dry f ge.tp.1 ge.tp.2 rfl rfl
      refine text24 s2 ge fun h2 e s3 => ?_
      refine BX12_text_69 (fun a ha => by cases ha) fun _ => ?_
      refine BX12_text_73 ?_
      exact kn h4 sc sg cl hf h2 n1 hn1 s3
    · have s2 := s.made hn dry f ge.tp.1 ge.tp.2 rfl rfl
      rw [hf] at ge
      refine text24 s2 ge fun h2 e s3 => ?_
      obtain ⟨w1', w2', w3', w4'⟩ := wf sc sg cl hf
      have tx2 := (tx.is hn w3' w4' w1' w2').hi e
      refine BX12_text_69 (fun a ha => ?_) (fun ha => by cases ha)
      cases ha
      have s4 := s3
      obtain ⟨fp, p1, w, v, tp, gr, ⟨lx, la⟩, ro, ri, Gx, gl⟩ := id s4
      refine BX12_text_77 p1 rfl w.1 ?_
      refine R_X11_addText w tx2 (by decide) (by decide) (by omega) h4 fun h5 f5 w5 => ?_
      refine BX12_text_85 ?_
      have s5 : IsPo g h5 (fset W 3 (fset (W 3) 1 (W 3 1 + 1))) V (fset X (W 3 1) (mkT (alP F 25 (q0C sc sg cl)))) (txF F 0 0) := by
        obtain ⟨s0, s1, s2, s3, s4, s5, ⟨l, s6⟩, s7, s8, G, s9⟩ := s4
        rw [txF, if_pos rfl] at *
        exact ⟨s0.fr f5 (by decide) (by decide), by rw [f5 _ (by decide)]; exact s1, w5, (s3.X fun j j0 j1 => fset_ne (by omega)).fr f5 (by decide) (by decide), s4.fr f5 (by decide), s5.fr f5 (by decide), ⟨l, s6.fr f5 (by decide)⟩, s7.fr f5 (by decide), s8.fr f5 (by decide), G, s9.fr f5 (by decide)⟩
      exact ky h4 sc sg cl hf h5 (x + 2) (by have := tx.1; omega) s5
  · intro h4
    refine BX12_text_11 ?_
    exact k4 h4 h s
end TEXT5
