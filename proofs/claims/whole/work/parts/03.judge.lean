/-! The judgement of the walker, and how a contract comes of it. -/
abbrev aM : Type := MethodName × ByteArray × Nat × Option FieldType
def aGT : List Cond := lw_tbl.filter goodWord
theorem aGT_good {ws : List Cond} (h : ∀ w ∈ ws, w ∈ aGT) : GoodIn aGT ws := fun w hw => ⟨h w hw, good_of_word (List.mem_filter.mp (h w hw)).2⟩
def aNest : List (String × Nat × MethodName × String) := [
  ("BottledPost", 9, ⟨"BottledPost$World", "<init>", "()V"⟩, "BottledPost"),
  ("BottledPost$Shore", 25, ⟨"BottledPost", "setCell", "([III)V"⟩, "BottledPost"),
  ("BottledPost$World", 20, ⟨"BottledPost$Sea", "<init>", "()V"⟩, "BottledPost"),
  ("BottledPost$Sea", 17, ⟨"BottledPost$Book", "<init>", "()V"⟩, "BottledPost"),
  ("BottledPost$Steps", 21, ⟨"BottledPost$Sea", "<init>", "()V"⟩, "BottledPost"),
  ("BottledPost$World", 34, ⟨"BottledPost$Sayings", "<init>", "()V"⟩, "BottledPost"),
  ("BottledPost", 21, ⟨"BottledPost$Tape", "<init>", "()V"⟩, "BottledPost"),
  ("BottledPost", 28, ⟨"BottledPost$Grammar", "<init>", "()V"⟩, "BottledPost"),
  ("BottledPost", 35, ⟨"BottledPost$Laws", "<init>", "()V"⟩, "BottledPost"),
  ("BottledPost", 42, ⟨"BottledPost$Routes", "<init>", "()V"⟩, "BottledPost"),
  ("BottledPost", 49, ⟨"BottledPost$Riddles", "<init>", "()V"⟩, "BottledPost"),
  ("BottledPost", 56, ⟨"BottledPost$Sea", "<init>", "()V"⟩, "BottledPost"),
  ("BottledPost$Shore", 33, ⟨"BottledPost", "isPlace", "(I)Z"⟩, "BottledPost"),
  ("BottledPost$Shore", 37, ⟨"BottledPost", "within", "(III)Z"⟩, "BottledPost"),
  ("BottledPost$Tape", 31, ⟨"BottledPost", "setCell", "([III)V"⟩, "BottledPost"),
  ("BottledPost$Grammar", 107, ⟨"BottledPost", "setCell", "([III)V"⟩, "BottledPost"),
  ("BottledPost$Grammar", 118, ⟨"BottledPost", "within", "(III)Z"⟩, "BottledPost"),
  ("BottledPost$Sea", 32, ⟨"BottledPost", "copyRow", "([I[I)V"⟩, "BottledPost"),
  ("BottledPost$Book", 19, ⟨"BottledPost", "copyRow", "([I[I)V"⟩, "BottledPost"),
  ("BottledPost$Text", 19, ⟨"BottledPost", "cell", "([II)I"⟩, "BottledPost"),
  ("BottledPost$Book", 29, ⟨"BottledPost", "cell", "([II)I"⟩, "BottledPost"),
  ("BottledPost$Routes", 76, ⟨"BottledPost", "copyRow", "([I[I)V"⟩, "BottledPost"),
  ("BottledPost$Routes", 72, ⟨"BottledPost", "setCell", "([III)V"⟩, "BottledPost"),
  ("BottledPost$Routes", 56, ⟨"BottledPost", "cell", "([II)I"⟩, "BottledPost"),
  ("BottledPost$Sayings", 53, ⟨"BottledPost", "setCell", "([III)V"⟩, "BottledPost"),
  ("BottledPost$Sayings", 57, ⟨"BottledPost", "cell", "([II)I"⟩, "BottledPost"),
  ("BottledPost$Riddles", 34, ⟨"BottledPost", "within", "(III)Z"⟩, "BottledPost"),
  ("BottledPost$Riddles", 75, ⟨"BottledPost", "cell", "([II)I"⟩, "BottledPost"),
  ("BottledPost$Riddles", 91, ⟨"BottledPost", "setCell", "([III)V"⟩, "BottledPost"),
  ("BottledPost$Sayings", 81, ⟨"BottledPost", "within", "(III)Z"⟩, "BottledPost"),
  ("BottledPost$Shore", 29, ⟨"BottledPost", "copyRow", "([I[I)V"⟩, "BottledPost"),
  ("BottledPost$Sayings", 49, ⟨"BottledPost", "copyRow", "([I[I)V"⟩, "BottledPost")]
def aWords : String := "comes wears person current toss fish again tide since cork luck at from to near by later than places if then else end or and not "
def aWordsL : List Int := [99, 111, 109, 101, 115, 32, 119, 101, 97, 114, 115, 32, 112, 101, 114, 115, 111, 110, 32, 99, 117, 114, 114, 101, 110, 116, 32, 116, 111, 115, 115, 32, 102, 105, 115, 104, 32, 97, 103, 97, 105, 110, 32, 116, 105, 100, 101, 32, 115, 105, 110, 99, 101, 32, 99, 111, 114, 107, 32, 108, 117, 99, 107, 32, 97, 116, 32, 102, 114, 111, 109, 32, 116, 111, 32, 110, 101, 97, 114, 32, 98, 121, 32, 108, 97, 116, 101, 114, 32, 116, 104, 97, 110, 32, 112, 108, 97, 99, 101, 115, 32, 105, 102, 32, 116, 104, 101, 110, 32, 101, 108, 115, 101, 32, 101, 110, 100, 32, 111, 114, 32, 97, 110, 100, 32, 110, 111, 116, 32]
def aWordsB : List Int32 := aWordsL.map Int32.ofInt
/-- the text and the statics of the library's text classes, as they stand -/
def aSF (g : aG) (U : State) (H : Heap) : Prop := vk_S 1 [129] [aWordsB] (fun _ => gt g) (fun _ => gtb g) (gA g) U H ∧ vk_R RX9 65 aWords (gt g) U ∧ va_Z "java/lang/String" "COMPACT_STRINGS" "Z" (.int 1) (gA g) U H ∧ va_Zq "jdk/internal/util/Preconditions" "SIOOBE_FORMATTER" "Ljava/util/function/BiFunction;" (gA g) U H ∧ va_Nw (.castable "[I" "java/lang/Cloneable") U
/-- what the tables say, at a state of the run -/
def aKF (g : aG) (U : State) (H : Heap) : Prop := va_K (gD g) vwCl [] U ∧ (∀ w ∈ aNest, va_Nw (.methodLinkNest w.1 w.2.1 w.2.2.1 w.2.2.2) U) ∧ va_AO RX6 U ∧ va_AO RX10 U ∧ va_X (gb g) (gL g) (gxs g) U H ∧ gb g ≤ gB g ∧ aSF g U H
theorem aKF_kept {g : aG} {s U : State} {H H1 : Heap} {n : Nat} {h : aH} (hR : aRel g s h n H) (hW : s.WarmedH U.vm) (hK : aKF g s H) (hq : ∀ a : Nat, a < H.size → ¬ gA g a → H1[a]? = H[a]?) : aKF g U H1 := by
  obtain ⟨k1, k2, k3, k4, k5, k6, k7, k8, k9, k10, k11⟩ := hK
  have hvm := hW.alike
  refine ⟨k1.moved hvm, fun w hw => va_Nw.warmM hW (k2 w hw), k3.moved hvm, k4.moved hvm, (k5.moved hvm).kept (hq _ ?_ ?_), k6, (k7.moved hvm).kept hq, k8.warm hW, (k9.moved hvm).kept hq, (k10.moved hvm).kept hq, k11.warmC hW⟩
  · have := hR.1; have := hR.2.1; omega
  · unfold gA; omega
/-- the instruction that ends a method, and what its answer must be like -/
def aRet (r : Option FieldType) : Instr := match r with
  | none => .return_
  | some .long => .lreturn
  | some (.object _) => .areturn
  | some (.array _) => .areturn
  | some _ => .ireturn
def aOK (r : Option FieldType) (v : Option aV) : Prop := match r, v with
  | none, none => True
  | some .long, some (Sum.inr (Sum.inl _)) => True
  | some (.object _), some (Sum.inr (Sum.inr (Sum.inl _))) => True
  | some (.array _), some (Sum.inr (Sum.inr (Sum.inl _))) => True
  | some .int, some (Sum.inl _) => True
  | some .boolean, some (Sum.inl x) => x = 0 ∨ x = 1
  | some .char, some (Sum.inl x) => 0 ≤ x ∧ x < 256
  | some .byte, some (Sum.inl x) => 0 ≤ x ∧ x < 128
  | _, _ => False
def oRel (g : aG) : Option aV → Option Value → Prop
  | none, none => True
  | some v, some w => vRel g v w
  | _, _ => False
abbrev aQ : Type := Option aV → aH → Nat → Prop
/-- a method's own frame of facts: the machine, the code, the tables' words, the room that is left -/
def aCx (M : aM) (g : aG) (d : Nat) (p : Program) (R : Room) (s : State) (m : MethodId) (args : Array Value) (meth : Method) (c : Code) : Prop :=
  p.tables.exec = Jvm.exec ∧ c.code = M.2.1 ∧ c.maxLocals = M.2.2.1 ∧ meth.sig.returnType = M.2.2.2 ∧ meth.locks = false ∧ s.vm.findClass M.1.cls = some m.cls ∧ (∀ w ∈ aGT, w.before args s = true) ∧ aKF g s s.heap ∧ d ≤ R.frames ∧ 64 * d + 20 ≤ R.locals ∧ (M.1.name = "<init>" → meth.name = "<init>")
def Rn (d bc bs : Nat) (M : aM) (pc : Nat) (ls : aL) (st : List aV) (h : aH) (n : Nat) (Q : aQ) : Prop :=
  ∀ (g : aG) (p : Program) (l : Launch) (e : Env) (R : Room) (s : State) (m : MethodId) (args : Array Value) (below : List Frame) (meth : Method) (c : Code) (H : Heap) (locs : List Loc) (cells slots : Nat) (Qf : State → Prop) (lr : Array Slot) (sr : List Value),
    aCx M g d p R s m args meth c → cells + bc ≤ R.cells → slots + bs ≤ R.slots → aRel g s h n H → va_S (gA g) s.heap H locs → lRel g M.2.2.1 ls lr → sRel g st sr →
    (∀ (H1 : Heap) (locs1 : List Loc) (cells1 slots1 : Nat) (lr1 : Array Slot) (pc1 : Nat) (v : Option aV) (vr : Option Value) (h1 : aH) (n1 : Nat), cells1 ≤ cells + bc → slots1 ≤ slots + bs → Q v h1 n1 → aRel g s h1 n1 H1 → va_S (gA g) s.heap H1 locs1 → oRel g v vr → aOK M.2.2.2 v → decode M.2.1 pc1 = .ok (aRet M.2.2.2, 1) → W p l e R s m args below meth c H1 locs1 cells1 slots1 Qf (F0 m pc1 lr1 vr.toList)) →
    W p l e R s m args below meth c H locs cells slots Qf (F0 m pc lr sr)
theorem Rn.mono {d bc bs : Nat} {M : aM} {pc : Nat} {ls : aL} {st : List aV} {h : aH} {n : Nat} {Q Q' : aQ} (hq : ∀ v h1 n1, Q v h1 n1 → Q' v h1 n1) (K : Rn d bc bs M pc ls st h n Q) : Rn d bc bs M pc ls st h n Q' :=
  fun g p l e R s m args below meth c H locs cells slots Qf lr sr C h1 h2 hR hS hL hst hret => K g p l e R s m args below meth c H locs cells slots Qf lr sr C h1 h2 hR hS hL hst
    (fun H1 locs1 cells1 slots1 lr1 pc1 v vr h1 n1 a1 a2 a3 => hret H1 locs1 cells1 slots1 lr1 pc1 v vr h1 n1 a1 a2 (hq v h1 n1 a3))
theorem Rn.deep {d d' bc bs : Nat} {M : aM} {pc : Nat} {ls : aL} {st : List aV} {h : aH} {n : Nat} {Q : aQ} (hd : d ≤ d') (K : Rn d bc bs M pc ls st h n Q) : Rn d' bc bs M pc ls st h n Q :=
  fun g p l e R s m args below meth c H locs cells slots Qf lr sr C h1 h2 hR hS hL hst hret => K g p l e R s m args below meth c H locs cells slots Qf lr sr
    (by obtain ⟨c1, c2, c3, c4, c5, c6, c7, c8, c9, c10, c11⟩ := C; exact ⟨c1, c2, c3, c4, c5, c6, c7, c8, by omega, by omega, c11⟩) h1 h2 hR hS hL hst hret
theorem Rn.rich {d bc bs bc' bs' : Nat} {M : aM} {pc : Nat} {ls : aL} {st : List aV} {h : aH} {n : Nat} {Q : aQ} (hc : bc ≤ bc') (hs : bs ≤ bs') (K : Rn d bc bs M pc ls st h n Q) : Rn d bc' bs' M pc ls st h n Q :=
  fun g p l e R s m args below meth c H locs cells slots Qf lr sr C h1 h2 hR hS hL hst hret => K g p l e R s m args below meth c H locs cells slots Qf lr sr C (by omega) (by omega) hR hS hL hst
    (fun H1 locs1 cells1 slots1 lr1 pc1 v vr h1 n1 a1 a2 a3 => hret H1 locs1 cells1 slots1 lr1 pc1 v vr h1 n1 (by omega) (by omega) a3)
/-- a method's locals at its entry -/
def aEn : List aV → aL
  | [] => []
  | Sum.inr (Sum.inl x) :: vs => some (vL x) :: none :: aEn vs
  | v :: vs => some v :: aEn vs
def aEnt (vs : List aV) (n : Nat) : aL := aEn vs ++ List.replicate (n - (aEn vs).length) none
theorem aEn_cons1 {v : aV} {vs : List aV} (h : aCat v = 1) : aEn (v :: vs) = some v :: aEn vs := by
  rcases v with x | x | (x | x) | x <;> first | rfl | cases h
theorem aEn_cons2 {v : aV} {vs : List aV} (h : aCat v = 2) : aEn (v :: vs) = some v :: none :: aEn vs := by
  rcases v with x | x | (x | x) | x <;> first | rfl | cases h
theorem aCat_or (v : aV) : aCat v = 1 ∨ aCat v = 2 := by
  rcases v with x | x | (x | x) | x <;> simp [aCat]
theorem aEn_rel {g : aG} : ∀ {vs : List aV} {ws : List Value} (j i : Nat) {u : aV}, sRel g vs ws → (aEn vs)[i]? = some (some u) → ∃ w, (j + i, w) ∈ lv_args j ws ∧ vRel g u w := by
  intro vs
  induction vs with
  | nil => intro ws j i u h hi; simp [aEn] at hi
  | cons v vs ih =>
    intro ws j i u h hi
    obtain ⟨w, wt, rfl, h1, h2⟩ := sRel_cons h
    have hc := vRel_cat h1
    rcases aCat_or v with q | q
    · rw [aEn_cons1 q] at hi
      cases i with
      | zero => simp at hi; subst hi; exact ⟨w, List.mem_cons_self, h1⟩
      | succ i =>
        simp at hi
        obtain ⟨x, e, hx⟩ := ih (j + 1) i h2 hi
        refine ⟨x, List.mem_cons_of_mem _ ?_, hx⟩
        rw [if_neg (by rw [hc, q]; decide), show j + (i + 1) = j + 1 + i by omega]
        exact e
    · rw [aEn_cons2 q] at hi
      cases i with
      | zero => simp at hi; subst hi; exact ⟨w, List.mem_cons_self, h1⟩
      | succ i =>
        cases i with
        | zero => simp at hi
        | succ i =>
          simp at hi
          obtain ⟨x, e, hx⟩ := ih (j + 2) i h2 hi
          refine ⟨x, List.mem_cons_of_mem _ ?_, hx⟩
          rw [if_pos (by rw [hc, q]), show j + (i + 1 + 1) = j + 2 + i by omega]
          exact e
theorem aEn_len {g : aG} : ∀ {vs : List aV} {ws : List Value}, sRel g vs ws → (lg_sl ws).length = (aEn vs).length := by
  intro vs
  induction vs with
  | nil => intro ws h; rw [sRel_nil h]; rfl
  | cons v vs ih =>
    intro ws h
    obtain ⟨w, wt, rfl, h1, h2⟩ := sRel_cons h
    have hc := vRel_cat h1
    have := ih h2
    unfold lg_sl at this ⊢
    rcases aCat_or v with q | q
    · rw [aEn_cons1 q, List.flatMap_cons, if_neg (by rw [hc, q]; decide)]; simp [this]
    · rw [aEn_cons2 q, List.flatMap_cons, if_pos (by rw [hc, q])]; simp [this]
theorem aEnt_rel {g : aG} {vs : List aV} {ws : List Value} {n : Nat} (h : sRel g vs ws) (hn : (aEn vs).length ≤ n) : lRel g n (aEnt vs n) ((lg_sl ws ++ List.replicate (n - (lg_sl ws).length) Slot.unset).toArray) := by
  have hl := lv_entry ws (n := n) (by rw [aEn_len h]; exact hn)
  refine ⟨hl.1, hl.2.1, fun i u hu => ?_⟩
  have hi : (aEn vs)[i]? = some (some u) := by
    unfold aEnt at hu
    by_cases q : i < (aEn vs).length
    · rw [List.getElem?_append_left q] at hu; exact hu
    · rw [List.getElem?_append_right (by omega)] at hu
      rw [List.getElem?_replicate] at hu
      split at hu <;> simp at hu
  obtain ⟨w, hw, hv⟩ := aEn_rel 0 i h hi
  rw [Nat.zero_add] at hw
  exact ⟨w, hl.2.2 _ hw, hv⟩
/-- a contract's start and end -/
def aPc (g : aG) (avs : List aV) (h : aH) (n : Nat) : Array Value → State → Prop := fun a U => ∃ vs : List Value, a = vs.toArray ∧ sRel g avs vs ∧ aRel g U h n U.heap ∧ aKF g U U.heap
def aQc (g : aG) (M : aM) (Q : aQ) : Array Value → State → Outcome → State → Prop := fun _ st o t => ∃ (v : Option aV) (vr : Option Value) (h1 : aH) (n1 : Nat), o = .returned vr ∧ oRel g v vr ∧ aOK M.2.2.2 v ∧ Q v h1 n1 ∧ aRel g t h1 n1 t.heap ∧ va_F (gA g) st t
def aRm (d bc bs : Nat) : Room := { frames := d, cells := bc, slots := bs, locals := 64 * d + 20 }
def aWs (M : aM) : List Cond := Cond.code M.1 M.2.1 M.2.2.1 M.2.2.2 :: aGT
theorem aPc_blind {g : aG} {avs : List aV} {h : aH} {n : Nat} : FrameBlind (aPc g avs h n) := by
  intro a U j mk ⟨vs, h1, h2, h3, h4⟩
  have hh : (U.calling j mk a).heap = U.heap := rfl
  have hv : (U.calling j mk a).vm = U.vm := rfl
  have hal : U.vm.Alike (U.calling j mk a).vm := by rw [hv]; exact Vm.Alike.refl _
  obtain ⟨k1, k2, k3, k4, k5, k6, k7, k8, k9, k10, k11⟩ := h4
  exact ⟨vs, h1, h2, by rw [hh]; exact aRel_moved hal h3, by rw [hh]; exact ⟨k1.moved hal, fun w hw => va_Nw.same rfl hv.symm (k2 w hw), k3.moved hal, k4.moved hal, k5.moved hal, k6, k7.moved hal, k8.same hv, k9.moved hal, k10.moved hal, va_Nw.same rfl hv.symm k11⟩⟩
theorem small_of {z : Int32} (h0 : 0 ≤ z.toInt) {N : Nat} (h1 : z.toInt < N) (hN : N ≤ 256) : ∃ k : Fin 256, z = Int32.ofNat k ∧ (k : Nat) < N := by
  refine ⟨⟨z.toInt.toNat, by omega⟩, ?_, by show z.toInt.toNat < N; omega⟩
  apply Int32.toInt_inj.mp
  rw [Int32.toInt_ofNat_of_lt (by show z.toInt.toNat < 2147483648; omega)]
  show z.toInt = (z.toInt.toNat : Int)
  omega
theorem char_small : ∀ k : Fin 256, narrow .char (.int (Int32.ofNat k)) = .int (Int32.ofNat k) ∧ fits .char (.int (Int32.ofNat k)) = true := by decide +kernel
theorem byte_small : ∀ k : Fin 128, narrow .byte (.int (Int32.ofNat k)) = .int (Int32.ofNat k) ∧ fits .byte (.int (Int32.ofNat k)) = true := by decide +kernel
theorem char_ok {z : Int32} (h : 0 ≤ z.toInt ∧ z.toInt < 256) : narrow .char (.int z) = .int z ∧ fits .char (.int z) = true := by
  obtain ⟨k, rfl, -⟩ := small_of h.1 (N := 256) h.2 (by omega)
  exact char_small k
theorem byte_ok {z : Int32} (h : 0 ≤ z.toInt ∧ z.toInt < 128) : narrow .byte (.int z) = .int z ∧ fits .byte (.int z) = true := by
  obtain ⟨k, rfl, hk⟩ := small_of h.1 (N := 128) h.2 (by omega)
  exact byte_small ⟨k, hk⟩
set_option maxHeartbeats 1000000 in
/-- the last instruction: the answer and the world stand -/
theorem aRet_W {p : Program} {l : Launch} {e : Env} {s : State} {m : MethodId} {args : Array Value} {below : List Frame} {meth : Method} {c : Code} {M : aM} {g : aG} {d bc bs : Nat} {R : Room} {Q : aQ} (C : aCx M g d p R s m args meth c)
    {H1 : Heap} {locs1 : List Loc} {cells1 slots1 : Nat} {lr1 : Array Slot} {pc1 : Nat} {v : Option aV} {vr : Option Value} {h1 : aH} {n1 : Nat} (a1 : cells1 ≤ bc) (a2 : slots1 ≤ bs) (a3 : Q v h1 n1) (a4 : aRel g s h1 n1 H1) (a5 : va_S (gA g) s.heap H1 locs1) (a6 : oRel g v vr) (a7 : aOK M.2.2.2 v) (a8 : decode M.2.1 pc1 = .ok (aRet M.2.2.2, 1)) :
    W p l e R s m args below meth c H1 locs1 cells1 slots1 (MQ below (aQc g M Q) args s bc bs (gA g)) (F0 m pc1 lr1 vr.toList) := by
  obtain ⟨c1, c2, c3, c4, c5, c6, c7, c8, c9, c10, c11⟩ := C
  have hq : ∀ t : State, t.heap = H1 → s.WarmedH t.vm → aQc g M Q args s (.returned vr) t := fun t ht hW => ⟨v, vr, h1, n1, rfl, a6, a7, a3, by rw [ht]; exact aRel_moved hW.alike a4, a5.F ht⟩
  refine W.widen (k := bc) (n := bs) a1 a2 ?_
  obtain ⟨y, cc, nL, ret⟩ := M
  dsimp only at c2 c3 c4 a7 a8
  unfold aOK at a7
  split at a7
  · cases vr with
    | none => exact W.vret c1 c2 c4 hq a5.2.2 a8 c5
    | some w => exact a6.elim
  · cases vr with
    | none => exact a6.elim
    | some w =>
      obtain ⟨z, rfl, -⟩ := vRel_L a6
      exact W.lret c1 c2 c4 hq a5.2.2 a8 c5
  · cases vr with
    | none => exact a6.elim
    | some w =>
      rename_i nm r
      refine W.aret c1 c2 c4 (Or.inl ⟨nm, rfl⟩) ?_ hq a5.2.2 a8 c5
      cases r with
      | none => exact Or.inl (vRel_N a6)
      | some r => exact Or.inr ⟨_, vRel_R a6⟩
  · cases vr with
    | none => exact a6.elim
    | some w =>
      rename_i nm r
      refine W.aret c1 c2 c4 (Or.inr ⟨nm, rfl⟩) ?_ hq a5.2.2 a8 c5
      cases r with
      | none => exact Or.inl (vRel_N a6)
      | some r => exact Or.inr ⟨_, vRel_R a6⟩
  · cases vr with
    | none => exact a6.elim
    | some w =>
      obtain ⟨z, rfl, -⟩ := vRel_I a6
      exact W.iret c1 c2 c4 hq a5.2.2 a8 c5
  · cases vr with
    | none => exact a6.elim
    | some w =>
      obtain ⟨z, rfl, ez⟩ := vRel_I a6
      refine W.zret c1 c2 c4 ?_ hq a5.2.2 a8 c5
      rcases a7 with q | q
      · have : z = 0 := by rw [← Int32.toInt_inj, ez, q]; rfl
        rw [this]; rfl
      · have : z = 1 := by rw [← Int32.toInt_inj, ez, q]; rfl
        rw [this]; rfl
  · cases vr with
    | none => exact a6.elim
    | some w =>
      obtain ⟨z, rfl, ez⟩ := vRel_I a6
      rw [← ez] at a7
      exact W.zret c1 c2 c4 (char_ok a7).1 hq a5.2.2 a8 c5
  · cases vr with
    | none => exact a6.elim
    | some w =>
      obtain ⟨z, rfl, ez⟩ := vRel_I a6
      rw [← ez] at a7
      exact W.zret c1 c2 c4 (byte_ok a7).1 hq a5.2.2 a8 c5
  · exact a7.elim
set_option maxHeartbeats 1000000 in
/-- a walk of a whole body is a contract -/
theorem Rn.met {d bc bs : Nat} {M : aM} {h : aH} {n : Nat} {Q : aQ} {avs : List aV} (hp : plainFor M.1 = true) (hn : (aEn avs).length ≤ M.2.2.1) (l : Launch) (g : aG) (K : Rn d bc bs M 0 (aEnt avs M.2.2.1) [] h n Q) :
    Met l M.1 (aWs M) (aRm d bc bs) (aPc g avs h n) (aQc g M Q) bc bs (gA g) := by
  refine MetFree.of_bodySF (code := M.2.1) (maxLocals := M.2.2.1) (ret := M.2.2.2) hp ?_ ?_
  · intro args s m h hn
    obtain ⟨meth, c, h1, h2, h3, h4, h5, h6, -, -⟩ := Cond.code_spec hn (atoms_spec (ws := aWs M) h _ List.mem_cons_self)
    exact ⟨meth, c, h1, h2, h3, h4, h5, h6⟩
  · intro p e s m args below meth c s₁ B hml hv _
    obtain ⟨vs, rfl, hvs, hR, hK⟩ := hv
    have hts := atoms_spec (ws := aWs M) B.pre
    have C : aCx M g d p (headSpec (aWs M) (aRm d bc bs)).room s m vs.toArray meth c := ⟨B.exec, B.bytes, hml, B.returns, B.notSynchronized, findClass_of_methodNamed B.named, fun w hw => hts w (List.mem_cons_of_mem _ hw), hK, Nat.le_refl _, Nat.le_refl _, fun q => by rw [← q]; exact (name_of_methodNamed B.named B.method).1⟩
    have hh0 : s₁.heap = s.heap := by rw [B.state]; rfl
    have K1 : W p l e (headSpec (aWs M) (aRm d bc bs)).room s m vs.toArray below meth c s.heap [] 0 0 (MQ below (aQc g M Q) vs.toArray s bc bs (gA g)) (entryFrame m vs.toArray M.2.2.1) := by
      rw [lg_entry_eq]
      exact K g p l e _ s m vs.toArray below meth c s.heap [] 0 0 _ _ [] C (by show 0 + bc ≤ bc; omega) (by show 0 + bs ≤ bs; omega) hR va_S.rf (aEnt_rel hvs hn) trivial
        (fun H1 locs1 cells1 slots1 lr1 pc1 v vr h1 n1 a1 a2 a3 a4 a5 a6 a7 a8 => aRet_W C (by omega) (by omega) a3 a4 a5 a6 a7 a8)
    obtain ⟨t, a1, o, b1, b2, b3⟩ := K1 s₁ hh0 (Stand.of_body B)
    exact ⟨t, o, a1, b1, b2, b3.1, b3.2⟩
