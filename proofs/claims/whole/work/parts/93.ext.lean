/-! What lies anywhere stays where only new cells come. -/
def Ex (h h1 : aH) : Prop := ∀ x, h x ≠ cN → h1 x = h x
theorem Ex.o {h h1 : aH} (e : Ex h h1) {x k : Nat} {fs : List aV} (s : h x = cO k fs) (hk : k ≠ 99) : h1 x = cO k fs := (e x (by rw [s]; intro c; injection c with c; injection c with c _; exact hk c)).trans s
theorem Ex.i {h h1 : aH} (e : Ex h h1) {x : Nat} {xs : List Int} (s : h x = cI xs) : h1 x = cI xs := (e x (by rw [s]; intro c; cases c)).trans s
theorem Ex.j {h h1 : aH} (e : Ex h h1) {x : Nat} {xs : List Int} (s : h x = cJ xs) : h1 x = cJ xs := (e x (by rw [s]; intro c; cases c)).trans s
theorem Ex.q {h h1 : aH} (e : Ex h h1) {x k : Nat} {xs : List (Option Nat)} (s : h x = cQ k xs) : h1 x = cQ k xs := (e x (by rw [s]; intro c; cases c)).trans s
section EXT
variable {h h1 : aH}
theorem IsSh.ext {a : Nat} {np : Int} {pl lk cu : Int → Int} (e : Ex h h1) (s : IsSh h a np pl lk cu) : IsSh h1 a np pl lk cu := ⟨e.o s.1 (by decide), e.i s.2.1, e.i s.2.2.1, e.i s.2.2.2⟩
theorem IsBk.ext {b : Nat} {L : Int} {f : Int → Int} (e : Ex h h1) (s : IsBk h b L f) : IsBk h1 b L f := ⟨e.o s.1 (by decide), e.i s.2⟩
theorem IsSe.ext {a : Nat} {S : Int → Int} (e : Ex h h1) (s : IsSe h a S) : IsSe h1 a S := ⟨e.o s.1 (by decide), e.i s.2.1, s.2.2.ext e⟩
theorem IsSt.ext {a : Nat} {c : Int} {T : Int → Int → Int} {p : Int → Int} (e : Ex h h1) (s : IsSt h a c T p) : IsSt h1 a c T p := ⟨e.o s.1 (by decide), e.q s.2.1, s.2.2.1, fun j j0 j1 => (s.2.2.2 j j0 j1).ext e⟩
theorem IsSa.ext {a : Nat} {Y : Int → Int} (e : Ex h h1) (s : IsSa h a Y) : IsSa h1 a Y := by
  obtain ⟨s1, s2, s3, s4, s5, s6, s7, s8⟩ := s
  exact ⟨e.o s1 (by decide), e.i s2, e.i s3, e.i s4, e.i s5, e.i s6, e.i s7, e.i s8⟩
theorem LawAt.ext {a : Option Nat} {D : Option Dn} (e : Ex h h1) (s : LawAt h a D) : LawAt h1 a D := by
  rcases a with _ | c <;> rcases D with _ | D <;> first | exact s | skip
  obtain ⟨s1, L, len, s2, s3⟩ := s
  exact ⟨s1, L, len, e.i s2, s3⟩
theorem IsTx.ext {x : Nat} {T : Tx} (e : Ex h h1) (s : IsTx h x T) : IsTx h1 x T := by
  obtain ⟨s1, rc, oc, ow, m, s2, s3, s4, s5, s6, s7, s8⟩ := s
  exact ⟨s1, rc, oc, ow, m, e.o s2 (by decide), s3, s4, e.i s5, s6, s7.ext e, s8.ext e⟩
theorem IsSx.ext {a : Nat} {t : Int} {sc : Int → Option Nat} {X : Int → Tx} (e : Ex h h1) (s : IsSx h a t sc X) : IsSx h1 a t sc X := by
  obtain ⟨s1, s2, s3⟩ := s
  refine ⟨e.q s1, fun j j0 j1 => ?_, fun j j0 j1 => ?_⟩
  · rcases s2 j j0 j1 with w | ⟨x, g, w1, w2, w3⟩
    · exact .inl w
    · exact .inr ⟨x, g, w1, e.o w2 (by decide), w3⟩
  · obtain ⟨x, w1, w2⟩ := s3 j j0 j1
    exact ⟨x, w1, w2.ext e⟩
theorem IsW.ext {w : Nat} {W : Int → Int → Int} {X : Int → Tx} (e : Ex h h1) (s : IsW h w W X) : IsW h1 w W X := by
  obtain ⟨s1, s2, s3, ⟨T, p, s4, s5⟩, s6, sc, s7⟩ := s
  exact ⟨e.o s1 (by decide), s2.ext e, s3.ext e, ⟨T, p, s4.ext e, s5⟩, s6.ext e, sc, s7.ext e⟩
theorem IsLl.ext {a : Nat} {l : List Int} (e : Ex h h1) (s : IsLl h a l) : IsLl h1 a l := by
  obtain ⟨t, st, ⟨s1, s2⟩, s3⟩ := s
  exact ⟨t, st, ⟨e.o s1 (by decide), e.i s2⟩, s3⟩
theorem IsTp.ext {F : Int → Int} (e : Ex h h1) (s : IsTp h F) : IsTp h1 F := by
  obtain ⟨n1, n2, n3, n4, s1, s2⟩ := s
  exact ⟨n1, n2, n3, n4, e.o s1 (by decide), e.i s2⟩
theorem IsGr.ext (e : Ex h h1) (s : IsGr h) : IsGr h1 := by
  obtain ⟨n1, n2, n3, n4, c, w, n5, n6, cl, sg, s1, s2, s3⟩ := s
  exact ⟨n1, n2, n3, n4, c, w, n5, n6, cl, sg, e.o s1 (by decide), e.i s2, e.i s3⟩
theorem IsRo.ext (e : Ex h h1) (s : IsRo h) : IsRo h1 := by
  obtain ⟨n1, n2, n3, n4, n5, f1, f2, s1, s2, s3⟩ := s
  exact ⟨n1, n2, n3, n4, n5, f1, f2, e.o s1 (by decide), e.i s2, e.i s3⟩
theorem IsRi.ext (e : Ex h h1) (s : IsRi h) : IsRi h1 := by
  obtain ⟨n1, n2, f1, f2, f3, f4, s1, s2, s3, s4, s5⟩ := s
  exact ⟨n1, n2, f1, f2, f3, f4, e.o s1 (by decide), e.i s2, e.j s3, e.i s4, e.j s5⟩
theorem IsPo.ext {g : aH} {W V : Int → Int → Int} {X : Int → Tx} {F : Int → Int} (e : Ex h h1) (fp : FP g h1) (s : IsPo g h W V X F) : IsPo g h1 W V X F := by
  obtain ⟨s0, s1, s2, s3, s4, s5, ⟨l, s6⟩, s7, s8, G, s9⟩ := s
  exact ⟨fp, e.o s1 (by decide), s2.ext e, s3.ext e, s4.ext e, s5.ext e, ⟨l, s6.ext e⟩, s7.ext e, s8.ext e, G, s9.ext e⟩
/-- the tape and the grammar changed, new cells came -/
theorem IsPo.made {g : aH} {n : Nat} {W V : Int → Int → Int} {X : Int → Tx} {F F2 : Int → Int} (s : IsPo g h W V X F) (hn : 317 ≤ n) (dry : ∀ i, n ≤ i → h i = cN) (f : FrN h h1 282 5 n) (tp : IsTp h1 F2) (gr : IsGr h1) (e0 : F2 0 = F 0) (e1 : F2 1 = F 1) : IsPo g h1 W V X F2 := by
  have h9 : ∃ h2 : aH, h2 = fun x => if x < n then h1 x else h x := ⟨_, rfl⟩
  obtain ⟨h2, eh⟩ := h9
  have lo : ∀ x, x < n → h2 x = h1 x := fun x hx => by rw [eh]; exact if_pos hx
  have f2 : Fr h h2 282 5 := fun x hx => by
    by_cases q : x < n
    · rw [lo x q]; exact f x q hx
    · rw [eh]; exact if_neg q
  have ex : Ex h2 h1 := fun x hx => by
    by_cases q : x < n
    · exact (lo x q).symm
    · exfalso
      apply hx
      rw [eh]
      exact (if_neg q).trans (dry x (by omega))
  obtain ⟨n1, n2, n3, n4, t1, t2⟩ := tp
  obtain ⟨m1, m2, m3, m4, c, w, m5, m6, cl, sg, g1, g2, g3⟩ := gr
  have tp2 : IsTp h2 F2 := ⟨n1, n2, n3, n4, (lo _ (by omega)).trans t1, (lo _ (by omega)).trans t2⟩
  have gr2 : IsGr h2 := ⟨m1, m2, m3, m4, c, w, m5, m6, cl, sg, (lo _ (by omega)).trans g1, (lo _ (by omega)).trans g2, (lo _ (by omega)).trans g3⟩
  obtain ⟨s0, s1, s2, s3, s4, s5, ⟨l, s6⟩, s7, s8, G, s9⟩ := s
  have p2 : IsPo g h2 W V X F2 := ⟨s0.fr f2 (by decide) (by decide), by rw [f2 _ (by decide)]; unfold poF; rw [e0, e1]; exact s1, s2.fr f2 (by decide) (by decide), s3.fr f2 (by decide) (by decide), tp2, gr2, ⟨l, s6.fr f2 (by decide)⟩, s7.fr f2 (by decide), s8.fr f2 (by decide), G, s9.fr f2 (by decide)⟩
  exact p2.ext ex ⟨fun x hx => by rw [← lo x (by omega)]; exact p2.1.1 x hx, fun x hx hg => by rw [ex x (by rw [p2.1.2 x hx hg]; exact hg)]; exact p2.1.2 x hx hg⟩
end EXT
theorem Rn.dry {d bc bs : Nat} {M : aM} {pc : Nat} {ls : aL} {st : List aV} {h : aH} {n : Nat} {Q : aQ} (K : (∀ i, n ≤ i → h i = cN) → Rn d bc bs M pc ls st h n Q) : Rn d bc bs M pc ls st h n Q :=
  fun g p l e R s m args below meth c H locs cells slots Qf lr sr C h1 h2 hR hS hL hst hret => K hR.2.2.1 g p l e R s m args below meth c H locs cells slots Qf lr sr C h1 h2 hR hS hL hst hret
