/-! One row an instruction, of the judgement Rn: what changes the locals and the stack alone. -/
theorem i32_of (y : Int32) : Int32.ofInt y.toInt = y := Int32.ofInt_toInt y
theorem i64_of (y : Int64) : Int64.ofInt y.toInt = y := Int64.ofInt_toInt y
def and32 (x y : Int) : Int := (Int32.ofInt x &&& Int32.ofInt y).toInt
def or32 (x y : Int) : Int := (Int32.ofInt x ||| Int32.ofInt y).toInt
def xor32 (x y : Int) : Int := (Int32.ofInt x ^^^ Int32.ofInt y).toInt
def shl32 (x y : Int) : Int := (Int32.ofInt x <<< (Int32.ofInt y &&& 31)).toInt
def shr32 (x y : Int) : Int := (Int32.ofInt x >>> (Int32.ofInt y &&& 31)).toInt
def or64 (x y : Int) : Int := (Int64.ofInt x ||| Int64.ofInt y).toInt
def shl64 (x y : Int) : Int := (Int64.ofInt x <<< ((Int32.ofInt y).toInt64 &&& 63)).toInt
def shr64 (x y : Int) : Int := (Int64.ofInt x >>> ((Int32.ofInt y).toInt64 &&& 63)).toInt
def lc (x y : Int) : Int := if y < x then 1 else if x = y then 0 else -1
theorem lc_eq {x y : Int} (h : lc x y = 0) : x = y := by
  unfold lc at h
  split at h
  · omega
  · split at h <;> omega
theorem lc_ne {x y : Int} (h : lc x y ≠ 0) : x ≠ y := by
  unfold lc at h
  split at h
  · omega
  · split at h <;> omega
theorem lc_lt {x y : Int} (h : lc x y < 0) : x < y := by
  unfold lc at h
  split at h
  · omega
  · split at h <;> omega
theorem lc_ge {x y : Int} (h : 0 ≤ lc x y) : y ≤ x := by
  unfold lc at h
  split at h
  · omega
  · split at h <;> omega
theorem lc_gt {x y : Int} (h : 0 < lc x y) : y < x := by
  unfold lc at h
  split at h
  · omega
  · split at h <;> omega
theorem lc_le {x y : Int} (h : lc x y ≤ 0) : x ≤ y := by
  unfold lc at h
  split at h
  · omega
  · split at h <;> omega
theorem w32_add (a b : Int32) : (a + b).toInt = w32 (a.toInt + b.toInt) := Int32.toInt_add a b
theorem w32_sub (a b : Int32) : (a - b).toInt = w32 (a.toInt - b.toInt) := Int32.toInt_sub a b
theorem w32_mul (a b : Int32) : (a * b).toInt = w32 (a.toInt * b.toInt) := Int32.toInt_mul a b
theorem w32_neg (a : Int32) : (-a).toInt = w32 (-a.toInt) := Int32.toInt_neg a
theorem w32_div (a b : Int32) : (a / b).toInt = w32 (a.toInt.tdiv b.toInt) := Int32.toInt_div a b
theorem w32_rem (a b : Int32) : (a - a / b * b).toInt = a.toInt.tmod b.toInt := by
  rw [w32_sub, w32_mul, w32_div]
  have h : w32 (a.toInt - w32 (w32 (a.toInt.tdiv b.toInt) * b.toInt)) = w32 (a.toInt - a.toInt.tdiv b.toInt * b.toInt) := by
    unfold w32
    rw [Int.sub_bmod_bmod, ← Int.sub_bmod_bmod, Int.bmod_mul_bmod, Int.sub_bmod_bmod]
  rw [h, show a.toInt - a.toInt.tdiv b.toInt * b.toInt = a.toInt.tmod b.toInt by rw [Int.tmod_def, Int.mul_comm], ← Int32.toInt_mod]
  exact w32_id (Int32.le_toInt _) (Int32.toInt_lt _)
theorem w64_add (a b : Int64) : (a + b).toInt = w64 (a.toInt + b.toInt) := Int64.toInt_add a b
theorem w64_sub (a b : Int64) : (a - b).toInt = w64 (a.toInt - b.toInt) := Int64.toInt_sub a b
theorem w64_mul (a b : Int64) : (a * b).toInt = w64 (a.toInt * b.toInt) := Int64.toInt_mul a b
theorem w64_neg (a : Int64) : (-a).toInt = w64 (-a.toInt) := Int64.toInt_neg a
theorem w64_div (a b : Int64) : (a / b).toInt = w64 (a.toInt.tdiv b.toInt) := Int64.toInt_div a b
theorem w64_rem (a b : Int64) : (a - a / b * b).toInt = a.toInt.tmod b.toInt := by
  rw [w64_sub, w64_mul, w64_div]
  have h : w64 (a.toInt - w64 (w64 (a.toInt.tdiv b.toInt) * b.toInt)) = w64 (a.toInt - a.toInt.tdiv b.toInt * b.toInt) := by
    unfold w64
    rw [Int.sub_bmod_bmod, ← Int.sub_bmod_bmod, Int.bmod_mul_bmod, Int.sub_bmod_bmod]
  rw [h, show a.toInt - a.toInt.tdiv b.toInt * b.toInt = a.toInt.tmod b.toInt by rw [Int.tmod_def, Int.mul_comm], ← Int64.toInt_mod]
  exact w64_id (Int64.le_toInt _) (Int64.toInt_lt _)
def aNL : Option aV → Bool
  | some (Sum.inr (Sum.inl _)) => false
  | _ => true
theorem aNL_cat {u : aV} (h : aNL (some u) = true) : aCat u = 1 := by
  rcases u with x | x | (x | x) | x <;> first | rfl | cases h
section RULES
variable {d bc bs : Nat} {M : aM} {pc : Nat} {ls : aL} {st : List aV} {h : aH} {n : Nat} {Q : aQ}
theorem Rn_iadd {y x : Int} (hd : decode M.2.1 pc = .ok (.iadd, 1)) (k : Rn d bc bs M (pc + 1) ls (vI (w32 (x + y)) :: st) h n Q) : Rn d bc bs M pc ls (vI y :: vI x :: st) h n Q := by
  intro g p l e R s m args below meth c H locs cells slots Qf lr sr C hc hs hR hS hL hst hret
  obtain ⟨q0, t0, rfl, r0, z0⟩ := sRel_cons hst
  obtain ⟨y, rfl, rfl⟩ := vRel_I r0
  obtain ⟨q1, t1, rfl, r1, z1⟩ := sRel_cons z0
  obtain ⟨x, rfl, rfl⟩ := vRel_I r1
  refine lv_iadd C.1 C.2.1 hd ?_
  exact k g p l e R s m args below meth c H locs cells slots Qf lr _ C hc hs hR hS hL ⟨w32_add _ _, z1⟩ hret
theorem Rn_isub {y x : Int} (hd : decode M.2.1 pc = .ok (.isub, 1)) (k : Rn d bc bs M (pc + 1) ls (vI (w32 (x - y)) :: st) h n Q) : Rn d bc bs M pc ls (vI y :: vI x :: st) h n Q := by
  intro g p l e R s m args below meth c H locs cells slots Qf lr sr C hc hs hR hS hL hst hret
  obtain ⟨q0, t0, rfl, r0, z0⟩ := sRel_cons hst
  obtain ⟨y, rfl, rfl⟩ := vRel_I r0
  obtain ⟨q1, t1, rfl, r1, z1⟩ := sRel_cons z0
  obtain ⟨x, rfl, rfl⟩ := vRel_I r1
  refine lv_isub C.1 C.2.1 hd ?_
  exact k g p l e R s m args below meth c H locs cells slots Qf lr _ C hc hs hR hS hL ⟨w32_sub _ _, z1⟩ hret
theorem Rn_imul {y x : Int} (hd : decode M.2.1 pc = .ok (.imul, 1)) (k : Rn d bc bs M (pc + 1) ls (vI (w32 (x * y)) :: st) h n Q) : Rn d bc bs M pc ls (vI y :: vI x :: st) h n Q := by
  intro g p l e R s m args below meth c H locs cells slots Qf lr sr C hc hs hR hS hL hst hret
  obtain ⟨q0, t0, rfl, r0, z0⟩ := sRel_cons hst
  obtain ⟨y, rfl, rfl⟩ := vRel_I r0
  obtain ⟨q1, t1, rfl, r1, z1⟩ := sRel_cons z0
  obtain ⟨x, rfl, rfl⟩ := vRel_I r1
  refine lv_imul C.1 C.2.1 hd ?_
  exact k g p l e R s m args below meth c H locs cells slots Qf lr _ C hc hs hR hS hL ⟨w32_mul _ _, z1⟩ hret
theorem Rn_iand {y x : Int} (hd : decode M.2.1 pc = .ok (.iand, 1)) (k : Rn d bc bs M (pc + 1) ls (vI (and32 x y) :: st) h n Q) : Rn d bc bs M pc ls (vI y :: vI x :: st) h n Q := by
  intro g p l e R s m args below meth c H locs cells slots Qf lr sr C hc hs hR hS hL hst hret
  obtain ⟨q0, t0, rfl, r0, z0⟩ := sRel_cons hst
  obtain ⟨y, rfl, rfl⟩ := vRel_I r0
  obtain ⟨q1, t1, rfl, r1, z1⟩ := sRel_cons z0
  obtain ⟨x, rfl, rfl⟩ := vRel_I r1
  refine lv_iand C.1 C.2.1 hd ?_
  exact k g p l e R s m args below meth c H locs cells slots Qf lr _ C hc hs hR hS hL ⟨by unfold and32; rw [i32_of, i32_of]; exact rfl, z1⟩ hret
theorem Rn_ior {y x : Int} (hd : decode M.2.1 pc = .ok (.ior, 1)) (k : Rn d bc bs M (pc + 1) ls (vI (or32 x y) :: st) h n Q) : Rn d bc bs M pc ls (vI y :: vI x :: st) h n Q := by
  intro g p l e R s m args below meth c H locs cells slots Qf lr sr C hc hs hR hS hL hst hret
  obtain ⟨q0, t0, rfl, r0, z0⟩ := sRel_cons hst
  obtain ⟨y, rfl, rfl⟩ := vRel_I r0
  obtain ⟨q1, t1, rfl, r1, z1⟩ := sRel_cons z0
  obtain ⟨x, rfl, rfl⟩ := vRel_I r1
  refine lv_ior C.1 C.2.1 hd ?_
  exact k g p l e R s m args below meth c H locs cells slots Qf lr _ C hc hs hR hS hL ⟨by unfold or32; rw [i32_of, i32_of]; exact rfl, z1⟩ hret
theorem Rn_ixor {y x : Int} (hd : decode M.2.1 pc = .ok (.ixor, 1)) (k : Rn d bc bs M (pc + 1) ls (vI (xor32 x y) :: st) h n Q) : Rn d bc bs M pc ls (vI y :: vI x :: st) h n Q := by
  intro g p l e R s m args below meth c H locs cells slots Qf lr sr C hc hs hR hS hL hst hret
  obtain ⟨q0, t0, rfl, r0, z0⟩ := sRel_cons hst
  obtain ⟨y, rfl, rfl⟩ := vRel_I r0
  obtain ⟨q1, t1, rfl, r1, z1⟩ := sRel_cons z0
  obtain ⟨x, rfl, rfl⟩ := vRel_I r1
  refine lv_ixor C.1 C.2.1 hd ?_
  exact k g p l e R s m args below meth c H locs cells slots Qf lr _ C hc hs hR hS hL ⟨by unfold xor32; rw [i32_of, i32_of]; exact rfl, z1⟩ hret
theorem Rn_ishl {y x : Int} (hd : decode M.2.1 pc = .ok (.ishl, 1)) (k : Rn d bc bs M (pc + 1) ls (vI (shl32 x y) :: st) h n Q) : Rn d bc bs M pc ls (vI y :: vI x :: st) h n Q := by
  intro g p l e R s m args below meth c H locs cells slots Qf lr sr C hc hs hR hS hL hst hret
  obtain ⟨q0, t0, rfl, r0, z0⟩ := sRel_cons hst
  obtain ⟨y, rfl, rfl⟩ := vRel_I r0
  obtain ⟨q1, t1, rfl, r1, z1⟩ := sRel_cons z0
  obtain ⟨x, rfl, rfl⟩ := vRel_I r1
  refine lv_ishl C.1 C.2.1 hd ?_
  exact k g p l e R s m args below meth c H locs cells slots Qf lr _ C hc hs hR hS hL ⟨by unfold shl32; rw [i32_of, i32_of]; exact rfl, z1⟩ hret
theorem Rn_ishr {y x : Int} (hd : decode M.2.1 pc = .ok (.ishr, 1)) (k : Rn d bc bs M (pc + 1) ls (vI (shr32 x y) :: st) h n Q) : Rn d bc bs M pc ls (vI y :: vI x :: st) h n Q := by
  intro g p l e R s m args below meth c H locs cells slots Qf lr sr C hc hs hR hS hL hst hret
  obtain ⟨q0, t0, rfl, r0, z0⟩ := sRel_cons hst
  obtain ⟨y, rfl, rfl⟩ := vRel_I r0
  obtain ⟨q1, t1, rfl, r1, z1⟩ := sRel_cons z0
  obtain ⟨x, rfl, rfl⟩ := vRel_I r1
  refine lv_ishr C.1 C.2.1 hd ?_
  exact k g p l e R s m args below meth c H locs cells slots Qf lr _ C hc hs hR hS hL ⟨by unfold shr32; rw [i32_of, i32_of]; exact rfl, z1⟩ hret
theorem Rn_ineg {x : Int} (hd : decode M.2.1 pc = .ok (.ineg, 1)) (k : Rn d bc bs M (pc + 1) ls (vI (w32 (-x)) :: st) h n Q) : Rn d bc bs M pc ls (vI x :: st) h n Q := by
  intro g p l e R s m args below meth c H locs cells slots Qf lr sr C hc hs hR hS hL hst hret
  obtain ⟨q0, t0, rfl, r0, z0⟩ := sRel_cons hst
  obtain ⟨x, rfl, rfl⟩ := vRel_I r0
  refine lv_ineg C.1 C.2.1 hd ?_
  exact k g p l e R s m args below meth c H locs cells slots Qf lr _ C hc hs hR hS hL ⟨w32_neg _, z0⟩ hret
theorem Rn_idiv {y x : Int} (hd : decode M.2.1 pc = .ok (.idiv, 1)) (hne : ¬ y = 0) (k : Rn d bc bs M (pc + 1) ls (vI (w32 (x.tdiv y)) :: st) h n Q) : Rn d bc bs M pc ls (vI y :: vI x :: st) h n Q := by
  intro g p l e R s m args below meth c H locs cells slots Qf lr sr C hc hs hR hS hL hst hret
  obtain ⟨q0, t0, rfl, r0, z0⟩ := sRel_cons hst
  obtain ⟨y, rfl, rfl⟩ := vRel_I r0
  obtain ⟨q1, t1, rfl, r1, z1⟩ := sRel_cons z0
  obtain ⟨x, rfl, rfl⟩ := vRel_I r1
  refine lv_idiv C.1 C.2.1 hd (fun q => hne (by rw [q]; rfl)) ?_
  exact k g p l e R s m args below meth c H locs cells slots Qf lr _ C hc hs hR hS hL ⟨w32_div _ _, z1⟩ hret
theorem Rn_irem {y x : Int} (hd : decode M.2.1 pc = .ok (.irem, 1)) (hne : ¬ y = 0) (k : Rn d bc bs M (pc + 1) ls (vI (x.tmod y) :: st) h n Q) : Rn d bc bs M pc ls (vI y :: vI x :: st) h n Q := by
  intro g p l e R s m args below meth c H locs cells slots Qf lr sr C hc hs hR hS hL hst hret
  obtain ⟨q0, t0, rfl, r0, z0⟩ := sRel_cons hst
  obtain ⟨y, rfl, rfl⟩ := vRel_I r0
  obtain ⟨q1, t1, rfl, r1, z1⟩ := sRel_cons z0
  obtain ⟨x, rfl, rfl⟩ := vRel_I r1
  refine lv_irem C.1 C.2.1 hd (fun q => hne (by rw [q]; rfl)) ?_
  exact k g p l e R s m args below meth c H locs cells slots Qf lr _ C hc hs hR hS hL ⟨w32_rem _ _, z1⟩ hret
theorem Rn_ladd {y x : Int} (hd : decode M.2.1 pc = .ok (.ladd, 1)) (k : Rn d bc bs M (pc + 1) ls (vL (w64 (x + y)) :: st) h n Q) : Rn d bc bs M pc ls (vL y :: vL x :: st) h n Q := by
  intro g p l e R s m args below meth c H locs cells slots Qf lr sr C hc hs hR hS hL hst hret
  obtain ⟨q0, t0, rfl, r0, z0⟩ := sRel_cons hst
  obtain ⟨y, rfl, rfl⟩ := vRel_L r0
  obtain ⟨q1, t1, rfl, r1, z1⟩ := sRel_cons z0
  obtain ⟨x, rfl, rfl⟩ := vRel_L r1
  refine lv_ladd C.1 C.2.1 hd ?_
  exact k g p l e R s m args below meth c H locs cells slots Qf lr _ C hc hs hR hS hL ⟨w64_add _ _, z1⟩ hret
theorem Rn_lsub {y x : Int} (hd : decode M.2.1 pc = .ok (.lsub, 1)) (k : Rn d bc bs M (pc + 1) ls (vL (w64 (x - y)) :: st) h n Q) : Rn d bc bs M pc ls (vL y :: vL x :: st) h n Q := by
  intro g p l e R s m args below meth c H locs cells slots Qf lr sr C hc hs hR hS hL hst hret
  obtain ⟨q0, t0, rfl, r0, z0⟩ := sRel_cons hst
  obtain ⟨y, rfl, rfl⟩ := vRel_L r0
  obtain ⟨q1, t1, rfl, r1, z1⟩ := sRel_cons z0
  obtain ⟨x, rfl, rfl⟩ := vRel_L r1
  refine lv_lsub C.1 C.2.1 hd ?_
  exact k g p l e R s m args below meth c H locs cells slots Qf lr _ C hc hs hR hS hL ⟨w64_sub _ _, z1⟩ hret
theorem Rn_lmul {y x : Int} (hd : decode M.2.1 pc = .ok (.lmul, 1)) (k : Rn d bc bs M (pc + 1) ls (vL (w64 (x * y)) :: st) h n Q) : Rn d bc bs M pc ls (vL y :: vL x :: st) h n Q := by
  intro g p l e R s m args below meth c H locs cells slots Qf lr sr C hc hs hR hS hL hst hret
  obtain ⟨q0, t0, rfl, r0, z0⟩ := sRel_cons hst
  obtain ⟨y, rfl, rfl⟩ := vRel_L r0
  obtain ⟨q1, t1, rfl, r1, z1⟩ := sRel_cons z0
  obtain ⟨x, rfl, rfl⟩ := vRel_L r1
  refine lv_lmul C.1 C.2.1 hd ?_
  exact k g p l e R s m args below meth c H locs cells slots Qf lr _ C hc hs hR hS hL ⟨w64_mul _ _, z1⟩ hret
theorem Rn_lneg {x : Int} (hd : decode M.2.1 pc = .ok (.lneg, 1)) (k : Rn d bc bs M (pc + 1) ls (vL (w64 (-x)) :: st) h n Q) : Rn d bc bs M pc ls (vL x :: st) h n Q := by
  intro g p l e R s m args below meth c H locs cells slots Qf lr sr C hc hs hR hS hL hst hret
  obtain ⟨q0, t0, rfl, r0, z0⟩ := sRel_cons hst
  obtain ⟨x, rfl, rfl⟩ := vRel_L r0
  refine lv_lneg C.1 C.2.1 hd ?_
  exact k g p l e R s m args below meth c H locs cells slots Qf lr _ C hc hs hR hS hL ⟨w64_neg _, z0⟩ hret
theorem Rn_ldiv {y x : Int} (hd : decode M.2.1 pc = .ok (.ldiv, 1)) (hne : ¬ y = 0) (k : Rn d bc bs M (pc + 1) ls (vL (w64 (x.tdiv y)) :: st) h n Q) : Rn d bc bs M pc ls (vL y :: vL x :: st) h n Q := by
  intro g p l e R s m args below meth c H locs cells slots Qf lr sr C hc hs hR hS hL hst hret
  obtain ⟨q0, t0, rfl, r0, z0⟩ := sRel_cons hst
  obtain ⟨y, rfl, rfl⟩ := vRel_L r0
  obtain ⟨q1, t1, rfl, r1, z1⟩ := sRel_cons z0
  obtain ⟨x, rfl, rfl⟩ := vRel_L r1
  refine lv_ldiv C.1 C.2.1 hd (fun q => hne (by rw [q]; rfl)) ?_
  exact k g p l e R s m args below meth c H locs cells slots Qf lr _ C hc hs hR hS hL ⟨w64_div _ _, z1⟩ hret
theorem Rn_lrem {y x : Int} (hd : decode M.2.1 pc = .ok (.lrem, 1)) (hne : ¬ y = 0) (k : Rn d bc bs M (pc + 1) ls (vL (x.tmod y) :: st) h n Q) : Rn d bc bs M pc ls (vL y :: vL x :: st) h n Q := by
  intro g p l e R s m args below meth c H locs cells slots Qf lr sr C hc hs hR hS hL hst hret
  obtain ⟨q0, t0, rfl, r0, z0⟩ := sRel_cons hst
  obtain ⟨y, rfl, rfl⟩ := vRel_L r0
  obtain ⟨q1, t1, rfl, r1, z1⟩ := sRel_cons z0
  obtain ⟨x, rfl, rfl⟩ := vRel_L r1
  refine lv_lrem C.1 C.2.1 hd (fun q => hne (by rw [q]; rfl)) ?_
  exact k g p l e R s m args below meth c H locs cells slots Qf lr _ C hc hs hR hS hL ⟨w64_rem _ _, z1⟩ hret
theorem Rn_lor {y x : Int} (hd : decode M.2.1 pc = .ok (.lor, 1)) (k : Rn d bc bs M (pc + 1) ls (vL (or64 x y) :: st) h n Q) : Rn d bc bs M pc ls (vL y :: vL x :: st) h n Q := by
  intro g p l e R s m args below meth c H locs cells slots Qf lr sr C hc hs hR hS hL hst hret
  obtain ⟨q0, t0, rfl, r0, z0⟩ := sRel_cons hst
  obtain ⟨y, rfl, rfl⟩ := vRel_L r0
  obtain ⟨q1, t1, rfl, r1, z1⟩ := sRel_cons z0
  obtain ⟨x, rfl, rfl⟩ := vRel_L r1
  refine lv_lor C.1 C.2.1 hd ?_
  exact k g p l e R s m args below meth c H locs cells slots Qf lr _ C hc hs hR hS hL ⟨by unfold or64; rw [i64_of, i64_of]; exact rfl, z1⟩ hret
theorem Rn_lshl {y x : Int} (hd : decode M.2.1 pc = .ok (.lshl, 1)) (k : Rn d bc bs M (pc + 1) ls (vL (shl64 x y) :: st) h n Q) : Rn d bc bs M pc ls (vI y :: vL x :: st) h n Q := by
  intro g p l e R s m args below meth c H locs cells slots Qf lr sr C hc hs hR hS hL hst hret
  obtain ⟨q0, t0, rfl, r0, z0⟩ := sRel_cons hst
  obtain ⟨y, rfl, rfl⟩ := vRel_I r0
  obtain ⟨q1, t1, rfl, r1, z1⟩ := sRel_cons z0
  obtain ⟨x, rfl, rfl⟩ := vRel_L r1
  refine lv_lshl C.1 C.2.1 hd rfl ?_
  exact k g p l e R s m args below meth c H locs cells slots Qf lr _ C hc hs hR hS hL ⟨by unfold shl64; rw [i64_of, i32_of]; exact rfl, z1⟩ hret
theorem Rn_lshr {y x : Int} (hd : decode M.2.1 pc = .ok (.lshr, 1)) (k : Rn d bc bs M (pc + 1) ls (vL (shr64 x y) :: st) h n Q) : Rn d bc bs M pc ls (vI y :: vL x :: st) h n Q := by
  intro g p l e R s m args below meth c H locs cells slots Qf lr sr C hc hs hR hS hL hst hret
  obtain ⟨q0, t0, rfl, r0, z0⟩ := sRel_cons hst
  obtain ⟨y, rfl, rfl⟩ := vRel_I r0
  obtain ⟨q1, t1, rfl, r1, z1⟩ := sRel_cons z0
  obtain ⟨x, rfl, rfl⟩ := vRel_L r1
  refine lv_lshr C.1 C.2.1 hd rfl ?_
  exact k g p l e R s m args below meth c H locs cells slots Qf lr _ C hc hs hR hS hL ⟨by unfold shr64; rw [i64_of, i32_of]; exact rfl, z1⟩ hret
theorem Rn_i2l {x : Int} (hd : decode M.2.1 pc = .ok (.i2l, 1)) (k : Rn d bc bs M (pc + 1) ls (vL x :: st) h n Q) : Rn d bc bs M pc ls (vI x :: st) h n Q := by
  intro g p l e R s m args below meth c H locs cells slots Qf lr sr C hc hs hR hS hL hst hret
  obtain ⟨q0, t0, rfl, r0, z0⟩ := sRel_cons hst
  obtain ⟨x, rfl, rfl⟩ := vRel_I r0
  refine lv_i2l C.1 C.2.1 hd rfl ?_
  exact k g p l e R s m args below meth c H locs cells slots Qf lr _ C hc hs hR hS hL ⟨Int32.toInt_toInt64 _, z0⟩ hret
theorem Rn_l2i {x : Int} (hd : decode M.2.1 pc = .ok (.l2i, 1)) (k : Rn d bc bs M (pc + 1) ls (vI (w32 x) :: st) h n Q) : Rn d bc bs M pc ls (vL x :: st) h n Q := by
  intro g p l e R s m args below meth c H locs cells slots Qf lr sr C hc hs hR hS hL hst hret
  obtain ⟨q0, t0, rfl, r0, z0⟩ := sRel_cons hst
  obtain ⟨x, rfl, rfl⟩ := vRel_L r0
  refine lv_l2i C.1 C.2.1 hd rfl ?_
  exact k g p l e R s m args below meth c H locs cells slots Qf lr _ C hc hs hR hS hL ⟨Int64.toInt_toInt32 _, z0⟩ hret
theorem lc_of (x y : Int64) : (lg_cmp x y).toInt = lc x.toInt y.toInt := by
  unfold lg_cmp lc
  by_cases h1 : x > y
  · rw [if_pos h1, if_pos (Int64.lt_iff_toInt_lt.mp h1)]; rfl
  · rw [if_neg h1, if_neg (fun q => h1 (Int64.lt_iff_toInt_lt.mpr q))]
    by_cases h2 : x = y
    · rw [if_pos h2, if_pos (by rw [h2])]; rfl
    · rw [if_neg h2, if_neg (fun q => h2 (Int64.toInt_inj.mp q))]; rfl
theorem Rn_lcmp {y x : Int} (hd : decode M.2.1 pc = .ok (.lcmp, 1)) (k : Rn d bc bs M (pc + 1) ls (vI (lc x y) :: st) h n Q) : Rn d bc bs M pc ls (vL y :: vL x :: st) h n Q := by
  intro g p l e R s m args below meth c H locs cells slots Qf lr sr C hc hs hR hS hL hst hret
  obtain ⟨q0, t0, rfl, r0, z0⟩ := sRel_cons hst
  obtain ⟨y, rfl, rfl⟩ := vRel_L r0
  obtain ⟨q1, t1, rfl, r1, z1⟩ := sRel_cons z0
  obtain ⟨x, rfl, rfl⟩ := vRel_L r1
  refine W.lcmp C.1 C.2.1 hd ?_
  exact k g p l e R s m args below meth c H locs cells slots Qf lr _ C hc hs hR hS hL ⟨lc_of _ _, z1⟩ hret
theorem Rn_iconst {x : Int} (hd : decode M.2.1 pc = .ok (.iconst x, 1)) (hv : (Int32.ofInt x).toInt = x) (k : Rn d bc bs M (pc + 1) ls (vI x :: st) h n Q) : Rn d bc bs M pc ls (st) h n Q := by
  intro g p l e R s m args below meth c H locs cells slots Qf lr sr C hc hs hR hS hL hst hret
  refine lv_iconst C.1 C.2.1 hd rfl ?_
  exact k g p l e R s m args below meth c H locs cells slots Qf lr _ C hc hs hR hS hL ⟨hv, hst⟩ hret
theorem Rn_bipush {x : Int} (hd : decode M.2.1 pc = .ok (.bipush x, 2)) (hv : (Int8.ofInt x).toInt32.toInt = x) (k : Rn d bc bs M (pc + 2) ls (vI x :: st) h n Q) : Rn d bc bs M pc ls (st) h n Q := by
  intro g p l e R s m args below meth c H locs cells slots Qf lr sr C hc hs hR hS hL hst hret
  refine lv_bipush C.1 C.2.1 hd rfl ?_
  exact k g p l e R s m args below meth c H locs cells slots Qf lr _ C hc hs hR hS hL ⟨hv, hst⟩ hret
theorem Rn_sipush {x : Int} (hd : decode M.2.1 pc = .ok (.sipush x, 3)) (hv : (Int16.ofInt x).toInt32.toInt = x) (k : Rn d bc bs M (pc + 3) ls (vI x :: st) h n Q) : Rn d bc bs M pc ls (st) h n Q := by
  intro g p l e R s m args below meth c H locs cells slots Qf lr sr C hc hs hR hS hL hst hret
  refine lv_sipush C.1 C.2.1 hd rfl ?_
  exact k g p l e R s m args below meth c H locs cells slots Qf lr _ C hc hs hR hS hL ⟨hv, hst⟩ hret
theorem Rn_lconst {x : Int} {q : Fin 2} (hd : decode M.2.1 pc = .ok (.lconst q, 1)) (hv : (Int64.ofNat (q : Nat)).toInt = x) (k : Rn d bc bs M (pc + 1) ls (vL x :: st) h n Q) : Rn d bc bs M pc ls st h n Q := by
  intro g p l e R s m args below meth c H locs cells slots Qf lr sr C hc hs hR hS hL hst hret
  refine lv_lconst C.1 C.2.1 hd rfl ?_
  exact k g p l e R s m args below meth c H locs cells slots Qf lr _ C hc hs hR hS hL ⟨hv, hst⟩ hret
theorem Rn_ldc {x : Int} {idx : Nat} {v : Int32} (hd : decode M.2.1 pc = .ok (.ldc idx, 2)) (hw : Cond.constant M.1.cls idx v ∈ aGT) (hv : v.toInt = x) (k : Rn d bc bs M (pc + 2) ls (vI x :: st) h n Q) : Rn d bc bs M pc ls st h n Q := by
  intro g p l e R s m args below meth c H locs cells slots Qf lr sr C hc hs hR hS hL hst hret
  refine lv_ldc C.1 C.2.1 C.2.2.2.2.2.1 (C.2.2.2.2.2.2.1 _ hw) hd ?_
  exact k g p l e R s m args below meth c H locs cells slots Qf lr _ C hc hs hR hS hL ⟨hv, hst⟩ hret
theorem Rn_ldcw {x : Int} {idx : Nat} {v : Int32} (hd : decode M.2.1 pc = .ok (.ldc_w idx, 3)) (hw : Cond.constant M.1.cls idx v ∈ aGT) (hv : v.toInt = x) (k : Rn d bc bs M (pc + 3) ls (vI x :: st) h n Q) : Rn d bc bs M pc ls st h n Q := by
  intro g p l e R s m args below meth c H locs cells slots Qf lr sr C hc hs hR hS hL hst hret
  refine lv_ldcw C.1 C.2.1 C.2.2.2.2.2.1 (C.2.2.2.2.2.2.1 _ hw) hd ?_
  exact k g p l e R s m args below meth c H locs cells slots Qf lr _ C hc hs hR hS hL ⟨hv, hst⟩ hret
theorem Rn_ldc2 {x : Int} {idx : Nat} {v : Int64} (hd : decode M.2.1 pc = .ok (.ldc2_w idx, 3)) (hw : Cond.constantLong M.1.cls idx v ∈ aGT) (hv : v.toInt = x) (k : Rn d bc bs M (pc + 3) ls (vL x :: st) h n Q) : Rn d bc bs M pc ls st h n Q := by
  intro g p l e R s m args below meth c H locs cells slots Qf lr sr C hc hs hR hS hL hst hret
  refine lv_ldc2 C.1 C.2.1 C.2.2.2.2.2.1 (C.2.2.2.2.2.2.1 _ hw) hd ?_
  exact k g p l e R s m args below meth c H locs cells slots Qf lr _ C hc hs hR hS hL ⟨hv, hst⟩ hret
theorem Rn_ldcT (hM : M.1.cls = RX9) (hd : decode M.2.1 pc = .ok (.ldc 65, 2)) (k : Rn d bc bs M (pc + 2) ls (vT :: st) h n Q) : Rn d bc bs M pc ls st h n Q := by
  intro g p l e R s m args below meth c H locs cells slots Qf lr sr C hc hs hR hS hL hst hret
  refine va_ldcS C.1 C.2.1 (own := RX9) (tx := aWords) (q := gt g) (by rw [← hM]; exact C.2.2.2.2.2.1) ?_ hd ?_
  · exact C.2.2.2.2.2.2.2.1.2.2.2.2.2.2.2.1
  · exact k g p l e R s m args below meth c H locs cells slots Qf lr _ C hc hs hR hS hL ⟨vRel_t, hst⟩ hret
theorem Rn_null (hd : decode M.2.1 pc = .ok (.aconst_null, 1)) (k : Rn d bc bs M (pc + 1) ls (vR none :: st) h n Q) : Rn d bc bs M pc ls (st) h n Q := by
  intro g p l e R s m args below meth c H locs cells slots Qf lr sr C hc hs hR hS hL hst hret
  refine lv_null C.1 C.2.1 hd ?_
  exact k g p l e R s m args below meth c H locs cells slots Qf lr _ C hc hs hR hS hL ⟨trivial, hst⟩ hret
theorem Rn_iload_n {i : Nat} {q : Fin 4} {x : Int} (hd : decode M.2.1 pc = .ok (.iload_n q, 1)) (hi : (q : Nat) = i) (hl : ls[i]? = some (some (vI x))) (k : Rn d bc bs M (pc + 1) ls (vI x :: st) h n Q) : Rn d bc bs M pc ls st h n Q := by
  intro g p l e R s m args below meth c H locs cells slots Qf lr sr C hc hs hR hS hL hst hret
  obtain ⟨w, e1, r⟩ := hL.2.2 i _ hl
  obtain ⟨y, rfl, rfl⟩ := vRel_I r
  refine lv_iload_n C.1 C.2.1 hd hi e1 ?_
  exact k g p l e R s m args below meth c H locs cells slots Qf lr _ C hc hs hR hS hL ⟨rfl, hst⟩ hret
theorem Rn_iload {i : Nat} {x : Int} (hd : decode M.2.1 pc = .ok (.iload i, 2)) (hl : ls[i]? = some (some (vI x))) (k : Rn d bc bs M (pc + 2) ls (vI x :: st) h n Q) : Rn d bc bs M pc ls st h n Q := by
  intro g p l e R s m args below meth c H locs cells slots Qf lr sr C hc hs hR hS hL hst hret
  obtain ⟨w, e1, r⟩ := hL.2.2 i _ hl
  obtain ⟨y, rfl, rfl⟩ := vRel_I r
  refine lv_iload C.1 C.2.1 hd e1 ?_
  exact k g p l e R s m args below meth c H locs cells slots Qf lr _ C hc hs hR hS hL ⟨rfl, hst⟩ hret
theorem Rn_lload_n {i : Nat} {q : Fin 4} {x : Int} (hd : decode M.2.1 pc = .ok (.lload_n q, 1)) (hi : (q : Nat) = i) (hl : ls[i]? = some (some (vL x))) (k : Rn d bc bs M (pc + 1) ls (vL x :: st) h n Q) : Rn d bc bs M pc ls st h n Q := by
  intro g p l e R s m args below meth c H locs cells slots Qf lr sr C hc hs hR hS hL hst hret
  obtain ⟨w, e1, r⟩ := hL.2.2 i _ hl
  obtain ⟨y, rfl, rfl⟩ := vRel_L r
  refine lv_lload_n C.1 C.2.1 hd hi e1 ?_
  exact k g p l e R s m args below meth c H locs cells slots Qf lr _ C hc hs hR hS hL ⟨rfl, hst⟩ hret
theorem Rn_lload {i : Nat} {x : Int} (hd : decode M.2.1 pc = .ok (.lload i, 2)) (hl : ls[i]? = some (some (vL x))) (k : Rn d bc bs M (pc + 2) ls (vL x :: st) h n Q) : Rn d bc bs M pc ls st h n Q := by
  intro g p l e R s m args below meth c H locs cells slots Qf lr sr C hc hs hR hS hL hst hret
  obtain ⟨w, e1, r⟩ := hL.2.2 i _ hl
  obtain ⟨y, rfl, rfl⟩ := vRel_L r
  refine lv_lload C.1 C.2.1 hd e1 ?_
  exact k g p l e R s m args below meth c H locs cells slots Qf lr _ C hc hs hR hS hL ⟨rfl, hst⟩ hret
theorem Rn_aload_n {i : Nat} {q : Fin 4} {v : aV} (hd : decode M.2.1 pc = .ok (.aload_n q, 1)) (hi : (q : Nat) = i) (hl : ls[i]? = some (some v)) (hv : aRefy v = true) (k : Rn d bc bs M (pc + 1) ls (v :: st) h n Q) : Rn d bc bs M pc ls st h n Q := by
  intro g p l e R s m args below meth c H locs cells slots Qf lr sr C hc hs hR hS hL hst hret
  obtain ⟨w, e1, r⟩ := hL.2.2 i _ hl
  rcases vRel_refy hv r with rfl | ⟨t, rfl⟩
  · refine lv_aload_nN C.1 C.2.1 hd hi e1 ?_
    exact k g p l e R s m args below meth c H locs cells slots Qf lr _ C hc hs hR hS hL ⟨r, hst⟩ hret
  · refine lv_aload_n C.1 C.2.1 hd hi e1 ?_
    exact k g p l e R s m args below meth c H locs cells slots Qf lr _ C hc hs hR hS hL ⟨r, hst⟩ hret
theorem Rn_aload {i : Nat} {v : aV} (hd : decode M.2.1 pc = .ok (.aload i, 2)) (hl : ls[i]? = some (some v)) (hv : aRefy v = true) (k : Rn d bc bs M (pc + 2) ls (v :: st) h n Q) : Rn d bc bs M pc ls st h n Q := by
  intro g p l e R s m args below meth c H locs cells slots Qf lr sr C hc hs hR hS hL hst hret
  obtain ⟨w, e1, r⟩ := hL.2.2 i _ hl
  rcases vRel_refy hv r with rfl | ⟨t, rfl⟩
  · refine lv_aloadN C.1 C.2.1 hd e1 ?_
    exact k g p l e R s m args below meth c H locs cells slots Qf lr _ C hc hs hR hS hL ⟨r, hst⟩ hret
  · refine lv_aload C.1 C.2.1 hd e1 ?_
    exact k g p l e R s m args below meth c H locs cells slots Qf lr _ C hc hs hR hS hL ⟨r, hst⟩ hret
def aPrev (ls : aL) (i : Nat) : Bool := match i with
  | 0 => true
  | i + 1 => match ls[i]? with
    | some x => aNL x
    | none => true
theorem aPrev_ok {ls : aL} {i j : Nat} {u : aV} (hp : aPrev ls i = true) (h : ls[j]? = some (some u)) (hj : j + 1 = i) : aCat u = 1 := by
  subst hj
  simp only [aPrev, h] at hp
  exact aNL_cat hp
theorem aStore1 {ls : aL} {i : Nat} {v : aV} (hp : aPrev ls i = true) (j : Nat) (u : aV) (h : (ls.set i (some v))[j]? = some (some u)) : (j = i ∧ u = v) ∨ (j ≠ i ∧ ls[j]? = some (some u) ∧ (j + 1 = i → aCat u = 1)) := by
  by_cases q : i = j
  · subst q
    rw [List.getElem?_set_self'] at h
    cases hx : ls[i]? with
    | none => rw [hx] at h; simp at h
    | some x => rw [hx] at h; simp at h; exact Or.inl ⟨rfl, h.symm⟩
  · rw [List.getElem?_set_ne q] at h
    exact Or.inr ⟨fun e => q e.symm, h, fun e => aPrev_ok hp h e⟩
theorem aStore2 {ls : aL} {i : Nat} {v : aV} (hp : aPrev ls i = true) (j : Nat) (u : aV) (h : ((ls.set i (some v)).set (i + 1) none)[j]? = some (some u)) : (j = i ∧ u = v) ∨ (j ≠ i ∧ j ≠ i + 1 ∧ ls[j]? = some (some u) ∧ (j + 1 = i → aCat u = 1)) := by
  by_cases q : i + 1 = j
  · subst q
    rw [List.getElem?_set_self'] at h
    cases hx : (ls.set i (some v))[i + 1]? with
    | none => rw [hx] at h; simp at h
    | some x => rw [hx] at h; simp at h
  · rw [List.getElem?_set_ne q] at h
    rcases aStore1 hp j u h with h1 | ⟨h1, h2, h3⟩
    · exact Or.inl h1
    · exact Or.inr ⟨h1, fun e => q e.symm, h2, h3⟩
theorem Rn_istore_n {i : Nat} {q : Fin 4} {x : Int} {ls1 : aL} (hd : decode M.2.1 pc = .ok (.istore_n q, 1)) (hi : (q : Nat) = i) (hn : i < M.2.2.1) (hp : aPrev ls i = true) (hl : ls.set i (some (vI x)) = ls1) (k : Rn d bc bs M (pc + 1) ls1 st h n Q) : Rn d bc bs M pc ls (vI x :: st) h n Q := by
  intro g p l e R s m args below meth c H locs cells slots Qf lr sr C hc hs hR hS hL hst hret
  subst hl
  obtain ⟨q0, t0, rfl, r0, z0⟩ := sRel_cons hst
  obtain ⟨y, rfl, rfl⟩ := vRel_I r0
  refine lv_istore_n C.1 C.2.1 hd hi (lvAll_has hL.1 hL.2.1) hn rfl (fun lr1 hL1 => ?_)
  exact k g p l e R s m args below meth c H locs cells slots Qf lr1 _ C hc hs hR hS (lRel_st1 (v := vI y.toInt) (w := .int y) hL rfl hL1 (aStore1 hp)) z0 hret
theorem Rn_istore {i : Nat} {x : Int} {ls1 : aL} (hd : decode M.2.1 pc = .ok (.istore i, 2)) (hn : i < M.2.2.1) (hp : aPrev ls i = true) (hl : ls.set i (some (vI x)) = ls1) (k : Rn d bc bs M (pc + 2) ls1 st h n Q) : Rn d bc bs M pc ls (vI x :: st) h n Q := by
  intro g p l e R s m args below meth c H locs cells slots Qf lr sr C hc hs hR hS hL hst hret
  subst hl
  obtain ⟨q0, t0, rfl, r0, z0⟩ := sRel_cons hst
  obtain ⟨y, rfl, rfl⟩ := vRel_I r0
  refine lv_istore C.1 C.2.1 hd (lvAll_has hL.1 hL.2.1) hn rfl (fun lr1 hL1 => ?_)
  exact k g p l e R s m args below meth c H locs cells slots Qf lr1 _ C hc hs hR hS (lRel_st1 (v := vI y.toInt) (w := .int y) hL rfl hL1 (aStore1 hp)) z0 hret
theorem Rn_lstore_n {i : Nat} {q : Fin 4} {x : Int} {ls1 : aL} (hd : decode M.2.1 pc = .ok (.lstore_n q, 1)) (hi : (q : Nat) = i) (hn : i + 1 < M.2.2.1) (hp : aPrev ls i = true) (hl : (ls.set i (some (vL x))).set (i + 1) none = ls1) (k : Rn d bc bs M (pc + 1) ls1 st h n Q) : Rn d bc bs M pc ls (vL x :: st) h n Q := by
  intro g p l e R s m args below meth c H locs cells slots Qf lr sr C hc hs hR hS hL hst hret
  subst hl
  obtain ⟨q0, t0, rfl, r0, z0⟩ := sRel_cons hst
  obtain ⟨y, rfl, rfl⟩ := vRel_L r0
  refine lv_lstore_n C.1 C.2.1 hd hi (lvAll_has hL.1 hL.2.1) hn rfl (fun lr1 hL1 => ?_)
  exact k g p l e R s m args below meth c H locs cells slots Qf lr1 _ C hc hs hR hS (lRel_st2 (v := vL y.toInt) (w := .long y) hL rfl hL1 (aStore2 hp)) z0 hret
theorem Rn_lstore {i : Nat} {x : Int} {ls1 : aL} (hd : decode M.2.1 pc = .ok (.lstore i, 2)) (hn : i + 1 < M.2.2.1) (hp : aPrev ls i = true) (hl : (ls.set i (some (vL x))).set (i + 1) none = ls1) (k : Rn d bc bs M (pc + 2) ls1 st h n Q) : Rn d bc bs M pc ls (vL x :: st) h n Q := by
  intro g p l e R s m args below meth c H locs cells slots Qf lr sr C hc hs hR hS hL hst hret
  subst hl
  obtain ⟨q0, t0, rfl, r0, z0⟩ := sRel_cons hst
  obtain ⟨y, rfl, rfl⟩ := vRel_L r0
  refine lv_lstore C.1 C.2.1 hd (lvAll_has hL.1 hL.2.1) hn rfl (fun lr1 hL1 => ?_)
  exact k g p l e R s m args below meth c H locs cells slots Qf lr1 _ C hc hs hR hS (lRel_st2 (v := vL y.toInt) (w := .long y) hL rfl hL1 (aStore2 hp)) z0 hret
theorem Rn_astore_n {i : Nat} {q : Fin 4} {v : aV} {ls1 : aL} (hd : decode M.2.1 pc = .ok (.astore_n q, 1)) (hi : (q : Nat) = i) (hn : i < M.2.2.1) (hp : aPrev ls i = true) (hv : aRefy v = true) (hl : ls.set i (some v) = ls1) (k : Rn d bc bs M (pc + 1) ls1 st h n Q) : Rn d bc bs M pc ls (v :: st) h n Q := by
  intro g p l e R s m args below meth c H locs cells slots Qf lr sr C hc hs hR hS hL hst hret
  subst hl
  obtain ⟨q0, t0, rfl, r0, z0⟩ := sRel_cons hst
  rcases vRel_refy hv r0 with rfl | ⟨t, rfl⟩
  · refine lv_astore_nN C.1 C.2.1 hd hi (lvAll_has hL.1 hL.2.1) hn rfl (fun lr1 hL1 => ?_)
    exact k g p l e R s m args below meth c H locs cells slots Qf lr1 _ C hc hs hR hS (lRel_st1 (v := v) (w := .null) hL r0 hL1 (aStore1 hp)) z0 hret
  · refine lv_astore_n C.1 C.2.1 hd hi (lvAll_has hL.1 hL.2.1) hn rfl (fun lr1 hL1 => ?_)
    exact k g p l e R s m args below meth c H locs cells slots Qf lr1 _ C hc hs hR hS (lRel_st1 (v := v) (w := .ref t) hL r0 hL1 (aStore1 hp)) z0 hret
theorem Rn_astore {i : Nat} {v : aV} {ls1 : aL} (hd : decode M.2.1 pc = .ok (.astore i, 2)) (hn : i < M.2.2.1) (hp : aPrev ls i = true) (hv : aRefy v = true) (hl : ls.set i (some v) = ls1) (k : Rn d bc bs M (pc + 2) ls1 st h n Q) : Rn d bc bs M pc ls (v :: st) h n Q := by
  intro g p l e R s m args below meth c H locs cells slots Qf lr sr C hc hs hR hS hL hst hret
  subst hl
  obtain ⟨q0, t0, rfl, r0, z0⟩ := sRel_cons hst
  rcases vRel_refy hv r0 with rfl | ⟨t, rfl⟩
  · refine lv_astoreN C.1 C.2.1 hd (lvAll_has hL.1 hL.2.1) hn rfl (fun lr1 hL1 => ?_)
    exact k g p l e R s m args below meth c H locs cells slots Qf lr1 _ C hc hs hR hS (lRel_st1 (v := v) (w := .null) hL r0 hL1 (aStore1 hp)) z0 hret
  · refine lv_astore C.1 C.2.1 hd (lvAll_has hL.1 hL.2.1) hn rfl (fun lr1 hL1 => ?_)
    exact k g p l e R s m args below meth c H locs cells slots Qf lr1 _ C hc hs hR hS (lRel_st1 (v := v) (w := .ref t) hL r0 hL1 (aStore1 hp)) z0 hret
theorem Rn_iinc {i : Nat} {x a : Int} {ls1 : aL} (hd : decode M.2.1 pc = .ok (.iinc i a, 3)) (ha : (Int32.ofInt a).toInt = a) (hn : i < M.2.2.1) (hp : aPrev ls i = true) (hx : ls[i]? = some (some (vI x))) (hl : ls.set i (some (vI (w32 (x + a)))) = ls1) (k : Rn d bc bs M (pc + 3) ls1 st h n Q) : Rn d bc bs M pc ls st h n Q := by
  intro g p l e R s m args below meth c H locs cells slots Qf lr sr C hc hs hR hS hL hst hret
  subst hl
  obtain ⟨w, e1, r⟩ := hL.2.2 i _ hx
  obtain ⟨y, rfl, rfl⟩ := vRel_I r
  obtain ⟨kk, hkk⟩ := List.getElem?_of_mem (lvAll_in.mpr e1)
  refine lv_iinc (k := kk) C.1 C.2.1 hd (lvAll_has hL.1 hL.2.1) hkk rfl hn rfl (fun lr1 hL1 => ?_)
  exact k g p l e R s m args below meth c H locs cells slots Qf lr1 _ C hc hs hR hS (lRel_st1 hL (v := vI (w32 (y.toInt + a))) (by show (y + Int32.ofInt a).toInt = _; rw [w32_add, ha]) hL1 (aStore1 hp)) hst hret
theorem char_conv : ∀ k : Fin 256, ((Int32.ofNat k).toUInt32 % 65536).toInt32 = Int32.ofNat k := by decide +kernel
theorem Rn_i2c {x : Int} (hd : decode M.2.1 pc = .ok (.i2c, 1)) (h0 : 0 ≤ x) (h1 : x < 256) (k : Rn d bc bs M (pc + 1) ls (vI x :: st) h n Q) : Rn d bc bs M pc ls (vI x :: st) h n Q := by
  intro g p l e R s m args below meth c H locs cells slots Qf lr sr C hc hs hR hS hL hst hret
  obtain ⟨q0, t0, rfl, r0, z0⟩ := sRel_cons hst
  obtain ⟨y, rfl, rfl⟩ := vRel_I r0
  refine lv_i2c C.1 C.2.1 hd rfl ?_
  refine k g p l e R s m args below meth c H locs cells slots Qf lr _ C hc hs hR hS hL ⟨?_, z0⟩ hret
  obtain ⟨kk, rfl, -⟩ := small_of h0 (N := 256) h1 (by omega)
  show Int32.toInt _ = Int32.toInt _
  rw [char_conv kk]
theorem Rn_dup {v : aV} (hd : decode M.2.1 pc = .ok (.dup, 1)) (hc1 : aCat v = 1) (k : Rn d bc bs M (pc + 1) ls (v :: v :: st) h n Q) : Rn d bc bs M pc ls (v :: st) h n Q := by
  intro g p l e R s m args below meth c H locs cells slots Qf lr sr C hc hs hR hS hL hst hret
  obtain ⟨q0, t0, rfl, r0, z0⟩ := sRel_cons hst
  refine lv_dup C.1 C.2.1 hd (by rw [vRel_cat r0]; exact hc1) ?_
  exact k g p l e R s m args below meth c H locs cells slots Qf lr _ C hc hs hR hS hL ⟨r0, r0, z0⟩ hret
theorem Rn_pop {v : aV} (hd : decode M.2.1 pc = .ok (.pop, 1)) (hc1 : aCat v = 1) (k : Rn d bc bs M (pc + 1) ls st h n Q) : Rn d bc bs M pc ls (v :: st) h n Q := by
  intro g p l e R s m args below meth c H locs cells slots Qf lr sr C hc hs hR hS hL hst hret
  obtain ⟨q0, t0, rfl, r0, z0⟩ := sRel_cons hst
  refine lv_pop C.1 C.2.1 hd (by rw [vRel_cat r0]; exact hc1) ?_
  exact k g p l e R s m args below meth c H locs cells slots Qf lr _ C hc hs hR hS hL z0 hret
theorem Rn_dup2 {v u : aV} (hd : decode M.2.1 pc = .ok (.dup2, 1)) (hc1 : aCat v = 1) (hc2 : aCat u = 1) (k : Rn d bc bs M (pc + 1) ls (v :: u :: v :: u :: st) h n Q) : Rn d bc bs M pc ls (v :: u :: st) h n Q := by
  intro g p l e R s m args below meth c H locs cells slots Qf lr sr C hc hs hR hS hL hst hret
  obtain ⟨q0, t0, rfl, r0, z0⟩ := sRel_cons hst
  obtain ⟨q1, t1, rfl, r1, z1⟩ := sRel_cons z0
  refine lv_dup2_11 C.1 C.2.1 hd (by rw [vRel_cat r0]; exact hc1) (by rw [vRel_cat r1]; exact hc2) ?_
  exact k g p l e R s m args below meth c H locs cells slots Qf lr _ C hc hs hR hS hL ⟨r0, r1, r0, r1, z1⟩ hret
theorem Rn_ifeq {x : Int} {off : Int} {tgt : Nat} (hd : decode M.2.1 pc = .ok (.ifCond .eq off, 3)) (ht : (pc : Int) + off = (tgt : Int)) (kt : x = 0 → Rn d bc bs M tgt ls st h n Q) (kf : x ≠ 0 → Rn d bc bs M (pc + 3) ls st h n Q) : Rn d bc bs M pc ls (vI x :: st) h n Q := by
  intro g p l e R s m args below meth c H locs cells slots Qf lr sr C hc hs hR hS hL hst hret
  obtain ⟨q0, t0, rfl, r0, z0⟩ := sRel_cons hst
  obtain ⟨x, rfl, rfl⟩ := vRel_I r0
  refine lv_if_eq C.1 C.2.1 hd ht (fun q => ?_) (fun q => ?_)
  · exact (kt (by rw [q]; rfl)) g p l e R s m args below meth c H locs cells slots Qf lr _ C hc hs hR hS hL z0 hret
  · exact (kf (fun e => q (Int32.toInt_inj.mp e))) g p l e R s m args below meth c H locs cells slots Qf lr _ C hc hs hR hS hL z0 hret
theorem Rn_ifne {x : Int} {off : Int} {tgt : Nat} (hd : decode M.2.1 pc = .ok (.ifCond .ne off, 3)) (ht : (pc : Int) + off = (tgt : Int)) (kt : x ≠ 0 → Rn d bc bs M tgt ls st h n Q) (kf : x = 0 → Rn d bc bs M (pc + 3) ls st h n Q) : Rn d bc bs M pc ls (vI x :: st) h n Q := by
  intro g p l e R s m args below meth c H locs cells slots Qf lr sr C hc hs hR hS hL hst hret
  obtain ⟨q0, t0, rfl, r0, z0⟩ := sRel_cons hst
  obtain ⟨x, rfl, rfl⟩ := vRel_I r0
  refine lv_if_ne C.1 C.2.1 hd ht (fun q => ?_) (fun q => ?_)
  · exact (kt (fun e => q (Int32.toInt_inj.mp e))) g p l e R s m args below meth c H locs cells slots Qf lr _ C hc hs hR hS hL z0 hret
  · exact (kf (by rw [q]; rfl)) g p l e R s m args below meth c H locs cells slots Qf lr _ C hc hs hR hS hL z0 hret
theorem Rn_iflt {x : Int} {off : Int} {tgt : Nat} (hd : decode M.2.1 pc = .ok (.ifCond .lt off, 3)) (ht : (pc : Int) + off = (tgt : Int)) (kt : x < 0 → Rn d bc bs M tgt ls st h n Q) (kf : 0 ≤ x → Rn d bc bs M (pc + 3) ls st h n Q) : Rn d bc bs M pc ls (vI x :: st) h n Q := by
  intro g p l e R s m args below meth c H locs cells slots Qf lr sr C hc hs hR hS hL hst hret
  obtain ⟨q0, t0, rfl, r0, z0⟩ := sRel_cons hst
  obtain ⟨x, rfl, rfl⟩ := vRel_I r0
  refine lv_if_lt C.1 C.2.1 hd ht (fun q => ?_) (fun q => ?_)
  · exact (kt (Int32.lt_iff_toInt_lt.mp q)) g p l e R s m args below meth c H locs cells slots Qf lr _ C hc hs hR hS hL z0 hret
  · exact (kf (Int.not_lt.mp (fun e => q (Int32.lt_iff_toInt_lt.mpr e)))) g p l e R s m args below meth c H locs cells slots Qf lr _ C hc hs hR hS hL z0 hret
theorem Rn_ifge {x : Int} {off : Int} {tgt : Nat} (hd : decode M.2.1 pc = .ok (.ifCond .ge off, 3)) (ht : (pc : Int) + off = (tgt : Int)) (kt : 0 ≤ x → Rn d bc bs M tgt ls st h n Q) (kf : x < 0 → Rn d bc bs M (pc + 3) ls st h n Q) : Rn d bc bs M pc ls (vI x :: st) h n Q := by
  intro g p l e R s m args below meth c H locs cells slots Qf lr sr C hc hs hR hS hL hst hret
  obtain ⟨q0, t0, rfl, r0, z0⟩ := sRel_cons hst
  obtain ⟨x, rfl, rfl⟩ := vRel_I r0
  refine lv_if_ge C.1 C.2.1 hd ht (fun q => ?_) (fun q => ?_)
  · exact (kt (Int32.le_iff_toInt_le.mp q)) g p l e R s m args below meth c H locs cells slots Qf lr _ C hc hs hR hS hL z0 hret
  · exact (kf (Int.not_le.mp (fun e => q (Int32.le_iff_toInt_le.mpr e)))) g p l e R s m args below meth c H locs cells slots Qf lr _ C hc hs hR hS hL z0 hret
theorem Rn_ifgt {x : Int} {off : Int} {tgt : Nat} (hd : decode M.2.1 pc = .ok (.ifCond .gt off, 3)) (ht : (pc : Int) + off = (tgt : Int)) (kt : 0 < x → Rn d bc bs M tgt ls st h n Q) (kf : x ≤ 0 → Rn d bc bs M (pc + 3) ls st h n Q) : Rn d bc bs M pc ls (vI x :: st) h n Q := by
  intro g p l e R s m args below meth c H locs cells slots Qf lr sr C hc hs hR hS hL hst hret
  obtain ⟨q0, t0, rfl, r0, z0⟩ := sRel_cons hst
  obtain ⟨x, rfl, rfl⟩ := vRel_I r0
  refine lv_if_gt C.1 C.2.1 hd ht (fun q => ?_) (fun q => ?_)
  · exact (kt (Int32.lt_iff_toInt_lt.mp q)) g p l e R s m args below meth c H locs cells slots Qf lr _ C hc hs hR hS hL z0 hret
  · exact (kf (Int.not_lt.mp (fun e => q (Int32.lt_iff_toInt_lt.mpr e)))) g p l e R s m args below meth c H locs cells slots Qf lr _ C hc hs hR hS hL z0 hret
theorem Rn_ifle {x : Int} {off : Int} {tgt : Nat} (hd : decode M.2.1 pc = .ok (.ifCond .le off, 3)) (ht : (pc : Int) + off = (tgt : Int)) (kt : x ≤ 0 → Rn d bc bs M tgt ls st h n Q) (kf : 0 < x → Rn d bc bs M (pc + 3) ls st h n Q) : Rn d bc bs M pc ls (vI x :: st) h n Q := by
  intro g p l e R s m args below meth c H locs cells slots Qf lr sr C hc hs hR hS hL hst hret
  obtain ⟨q0, t0, rfl, r0, z0⟩ := sRel_cons hst
  obtain ⟨x, rfl, rfl⟩ := vRel_I r0
  refine lv_if_le C.1 C.2.1 hd ht (fun q => ?_) (fun q => ?_)
  · exact (kt (Int32.le_iff_toInt_le.mp q)) g p l e R s m args below meth c H locs cells slots Qf lr _ C hc hs hR hS hL z0 hret
  · exact (kf (Int.not_le.mp (fun e => q (Int32.le_iff_toInt_le.mpr e)))) g p l e R s m args below meth c H locs cells slots Qf lr _ C hc hs hR hS hL z0 hret
theorem Rn_icmpeq {y x : Int} {off : Int} {tgt : Nat} (hd : decode M.2.1 pc = .ok (.if_icmp .eq off, 3)) (ht : (pc : Int) + off = (tgt : Int)) (kt : x = y → Rn d bc bs M tgt ls st h n Q) (kf : x ≠ y → Rn d bc bs M (pc + 3) ls st h n Q) : Rn d bc bs M pc ls (vI y :: vI x :: st) h n Q := by
  intro g p l e R s m args below meth c H locs cells slots Qf lr sr C hc hs hR hS hL hst hret
  obtain ⟨q0, t0, rfl, r0, z0⟩ := sRel_cons hst
  obtain ⟨y, rfl, rfl⟩ := vRel_I r0
  obtain ⟨q1, t1, rfl, r1, z1⟩ := sRel_cons z0
  obtain ⟨x, rfl, rfl⟩ := vRel_I r1
  refine lv_icmp_eq C.1 C.2.1 hd ht (fun q => ?_) (fun q => ?_)
  · exact (kt (by rw [q])) g p l e R s m args below meth c H locs cells slots Qf lr _ C hc hs hR hS hL z1 hret
  · exact (kf (fun e => q (Int32.toInt_inj.mp e))) g p l e R s m args below meth c H locs cells slots Qf lr _ C hc hs hR hS hL z1 hret
theorem Rn_icmpne {y x : Int} {off : Int} {tgt : Nat} (hd : decode M.2.1 pc = .ok (.if_icmp .ne off, 3)) (ht : (pc : Int) + off = (tgt : Int)) (kt : x ≠ y → Rn d bc bs M tgt ls st h n Q) (kf : x = y → Rn d bc bs M (pc + 3) ls st h n Q) : Rn d bc bs M pc ls (vI y :: vI x :: st) h n Q := by
  intro g p l e R s m args below meth c H locs cells slots Qf lr sr C hc hs hR hS hL hst hret
  obtain ⟨q0, t0, rfl, r0, z0⟩ := sRel_cons hst
  obtain ⟨y, rfl, rfl⟩ := vRel_I r0
  obtain ⟨q1, t1, rfl, r1, z1⟩ := sRel_cons z0
  obtain ⟨x, rfl, rfl⟩ := vRel_I r1
  refine lv_icmp_ne C.1 C.2.1 hd ht (fun q => ?_) (fun q => ?_)
  · exact (kt (fun e => q (Int32.toInt_inj.mp e))) g p l e R s m args below meth c H locs cells slots Qf lr _ C hc hs hR hS hL z1 hret
  · exact (kf (by rw [q])) g p l e R s m args below meth c H locs cells slots Qf lr _ C hc hs hR hS hL z1 hret
theorem Rn_icmplt {y x : Int} {off : Int} {tgt : Nat} (hd : decode M.2.1 pc = .ok (.if_icmp .lt off, 3)) (ht : (pc : Int) + off = (tgt : Int)) (kt : x < y → Rn d bc bs M tgt ls st h n Q) (kf : y ≤ x → Rn d bc bs M (pc + 3) ls st h n Q) : Rn d bc bs M pc ls (vI y :: vI x :: st) h n Q := by
  intro g p l e R s m args below meth c H locs cells slots Qf lr sr C hc hs hR hS hL hst hret
  obtain ⟨q0, t0, rfl, r0, z0⟩ := sRel_cons hst
  obtain ⟨y, rfl, rfl⟩ := vRel_I r0
  obtain ⟨q1, t1, rfl, r1, z1⟩ := sRel_cons z0
  obtain ⟨x, rfl, rfl⟩ := vRel_I r1
  refine lv_icmp_lt C.1 C.2.1 hd ht (fun q => ?_) (fun q => ?_)
  · exact (kt (Int32.lt_iff_toInt_lt.mp q)) g p l e R s m args below meth c H locs cells slots Qf lr _ C hc hs hR hS hL z1 hret
  · exact (kf (Int.not_lt.mp (fun e => q (Int32.lt_iff_toInt_lt.mpr e)))) g p l e R s m args below meth c H locs cells slots Qf lr _ C hc hs hR hS hL z1 hret
theorem Rn_icmpge {y x : Int} {off : Int} {tgt : Nat} (hd : decode M.2.1 pc = .ok (.if_icmp .ge off, 3)) (ht : (pc : Int) + off = (tgt : Int)) (kt : y ≤ x → Rn d bc bs M tgt ls st h n Q) (kf : x < y → Rn d bc bs M (pc + 3) ls st h n Q) : Rn d bc bs M pc ls (vI y :: vI x :: st) h n Q := by
  intro g p l e R s m args below meth c H locs cells slots Qf lr sr C hc hs hR hS hL hst hret
  obtain ⟨q0, t0, rfl, r0, z0⟩ := sRel_cons hst
  obtain ⟨y, rfl, rfl⟩ := vRel_I r0
  obtain ⟨q1, t1, rfl, r1, z1⟩ := sRel_cons z0
  obtain ⟨x, rfl, rfl⟩ := vRel_I r1
  refine lv_icmp_ge C.1 C.2.1 hd ht (fun q => ?_) (fun q => ?_)
  · exact (kt (Int32.le_iff_toInt_le.mp q)) g p l e R s m args below meth c H locs cells slots Qf lr _ C hc hs hR hS hL z1 hret
  · exact (kf (Int.not_le.mp (fun e => q (Int32.le_iff_toInt_le.mpr e)))) g p l e R s m args below meth c H locs cells slots Qf lr _ C hc hs hR hS hL z1 hret
theorem Rn_icmpgt {y x : Int} {off : Int} {tgt : Nat} (hd : decode M.2.1 pc = .ok (.if_icmp .gt off, 3)) (ht : (pc : Int) + off = (tgt : Int)) (kt : y < x → Rn d bc bs M tgt ls st h n Q) (kf : x ≤ y → Rn d bc bs M (pc + 3) ls st h n Q) : Rn d bc bs M pc ls (vI y :: vI x :: st) h n Q := by
  intro g p l e R s m args below meth c H locs cells slots Qf lr sr C hc hs hR hS hL hst hret
  obtain ⟨q0, t0, rfl, r0, z0⟩ := sRel_cons hst
  obtain ⟨y, rfl, rfl⟩ := vRel_I r0
  obtain ⟨q1, t1, rfl, r1, z1⟩ := sRel_cons z0
  obtain ⟨x, rfl, rfl⟩ := vRel_I r1
  refine lv_icmp_gt C.1 C.2.1 hd ht (fun q => ?_) (fun q => ?_)
  · exact (kt (Int32.lt_iff_toInt_lt.mp q)) g p l e R s m args below meth c H locs cells slots Qf lr _ C hc hs hR hS hL z1 hret
  · exact (kf (Int.not_lt.mp (fun e => q (Int32.lt_iff_toInt_lt.mpr e)))) g p l e R s m args below meth c H locs cells slots Qf lr _ C hc hs hR hS hL z1 hret
theorem Rn_icmple {y x : Int} {off : Int} {tgt : Nat} (hd : decode M.2.1 pc = .ok (.if_icmp .le off, 3)) (ht : (pc : Int) + off = (tgt : Int)) (kt : x ≤ y → Rn d bc bs M tgt ls st h n Q) (kf : y < x → Rn d bc bs M (pc + 3) ls st h n Q) : Rn d bc bs M pc ls (vI y :: vI x :: st) h n Q := by
  intro g p l e R s m args below meth c H locs cells slots Qf lr sr C hc hs hR hS hL hst hret
  obtain ⟨q0, t0, rfl, r0, z0⟩ := sRel_cons hst
  obtain ⟨y, rfl, rfl⟩ := vRel_I r0
  obtain ⟨q1, t1, rfl, r1, z1⟩ := sRel_cons z0
  obtain ⟨x, rfl, rfl⟩ := vRel_I r1
  refine lv_icmp_le C.1 C.2.1 hd ht (fun q => ?_) (fun q => ?_)
  · exact (kt (Int32.le_iff_toInt_le.mp q)) g p l e R s m args below meth c H locs cells slots Qf lr _ C hc hs hR hS hL z1 hret
  · exact (kf (Int.not_le.mp (fun e => q (Int32.le_iff_toInt_le.mpr e)))) g p l e R s m args below meth c H locs cells slots Qf lr _ C hc hs hR hS hL z1 hret
theorem Rn_goto {off : Int} {tgt : Nat} (hd : decode M.2.1 pc = .ok (.goto off, 3)) (ht : (pc : Int) + off = (tgt : Int)) (k : Rn d bc bs M tgt ls st h n Q) : Rn d bc bs M pc ls st h n Q := by
  intro g p l e R s m args below meth c H locs cells slots Qf lr sr C hc hs hR hS hL hst hret
  refine lv_goto C.1 C.2.1 hd ht ?_
  exact k g p l e R s m args below meth c H locs cells slots Qf lr _ C hc hs hR hS hL hst hret
theorem Rn_ifnull {r : Option Nat} {off : Int} {tgt : Nat} (hd : decode M.2.1 pc = .ok (.ifnull off, 3)) (ht : (pc : Int) + off = (tgt : Int)) (kt : r = none → Rn d bc bs M tgt ls st h n Q) (kf : ∀ a, r = some a → Rn d bc bs M (pc + 3) ls st h n Q) : Rn d bc bs M pc ls (vR r :: st) h n Q := by
  intro g p l e R s m args below meth c H locs cells slots Qf lr sr C hc hs hR hS hL hst hret
  obtain ⟨q0, t0, rfl, r0, z0⟩ := sRel_cons hst
  cases r with
  | none =>
    have := vRel_N r0; subst this
    exact lv_ifnullN C.1 C.2.1 hd ht ((kt rfl) g p l e R s m args below meth c H locs cells slots Qf lr _ C hc hs hR hS hL z0 hret)
  | some a =>
    have := vRel_R r0; subst this
    exact lv_ifnull C.1 C.2.1 hd ((kf a rfl) g p l e R s m args below meth c H locs cells slots Qf lr _ C hc hs hR hS hL z0 hret)
theorem Rn_ifnonnull {r : Option Nat} {off : Int} {tgt : Nat} (hd : decode M.2.1 pc = .ok (.ifnonnull off, 3)) (ht : (pc : Int) + off = (tgt : Int)) (kt : ∀ a, r = some a → Rn d bc bs M tgt ls st h n Q) (kf : r = none → Rn d bc bs M (pc + 3) ls st h n Q) : Rn d bc bs M pc ls (vR r :: st) h n Q := by
  intro g p l e R s m args below meth c H locs cells slots Qf lr sr C hc hs hR hS hL hst hret
  obtain ⟨q0, t0, rfl, r0, z0⟩ := sRel_cons hst
  cases r with
  | none =>
    have := vRel_N r0; subst this
    exact lv_ifnonnullN C.1 C.2.1 hd ((kf rfl) g p l e R s m args below meth c H locs cells slots Qf lr _ C hc hs hR hS hL z0 hret)
  | some a =>
    have := vRel_R r0; subst this
    exact lv_ifnonnull C.1 C.2.1 hd ht ((kt a rfl) g p l e R s m args below meth c H locs cells slots Qf lr _ C hc hs hR hS hL z0 hret)
theorem Rn_tableIn {dflt lo hi : Int} {offs : Array Int} {len : Nat} {x : Int} {off : Int} {tgt : Nat} (hd : decode M.2.1 pc = .ok (.tableswitch dflt lo hi offs, len)) (h1 : lo ≤ x) (h2 : x ≤ hi) (ho : offs[(x - lo).toNat]? = some off) (ht : (pc : Int) + off = (tgt : Int)) (k : Rn d bc bs M tgt ls st h n Q) : Rn d bc bs M pc ls (vI x :: st) h n Q := by
  intro g p l e R s m args below meth c H locs cells slots Qf lr sr C hc hs hR hS hL hst hret
  obtain ⟨q0, t0, rfl, r0, z0⟩ := sRel_cons hst
  obtain ⟨y, rfl, rfl⟩ := vRel_I r0
  refine lv_tableIn C.1 C.2.1 hd (by omega) (by omega) ho ht ?_
  exact k g p l e R s m args below meth c H locs cells slots Qf lr _ C hc hs hR hS hL z0 hret
theorem Rn_tableOut {dflt lo hi : Int} {offs : Array Int} {len : Nat} {x : Int} {tgt : Nat} (hd : decode M.2.1 pc = .ok (.tableswitch dflt lo hi offs, len)) (h1 : x < lo ∨ hi < x) (ht : (pc : Int) + dflt = (tgt : Int)) (k : Rn d bc bs M tgt ls st h n Q) : Rn d bc bs M pc ls (vI x :: st) h n Q := by
  intro g p l e R s m args below meth c H locs cells slots Qf lr sr C hc hs hR hS hL hst hret
  obtain ⟨q0, t0, rfl, r0, z0⟩ := sRel_cons hst
  obtain ⟨y, rfl, rfl⟩ := vRel_I r0
  refine lv_tableOut C.1 C.2.1 hd h1 ht ?_
  exact k g p l e R s m args below meth c H locs cells slots Qf lr _ C hc hs hR hS hL z0 hret
theorem Rn_lookup {dflt : Int} {ps : Array (Int × Int)} {len : Nat} {x : Int} {off : Int} {tgt : Nat} (hd : decode M.2.1 pc = .ok (.lookupswitch dflt ps, len)) (hp : (ps.toList.zip (ps.toList.drop 1)).all (fun (a, next) => a.1 < next.1) = true) (ho : Op.lookupswitch.offset ps.toList dflt x = off) (ht : (pc : Int) + off = (tgt : Int)) (k : Rn d bc bs M tgt ls st h n Q) : Rn d bc bs M pc ls (vI x :: st) h n Q := by
  intro g p l e R s m args below meth c H locs cells slots Qf lr sr C hc hs hR hS hL hst hret
  obtain ⟨q0, t0, rfl, r0, z0⟩ := sRel_cons hst
  obtain ⟨y, rfl, rfl⟩ := vRel_I r0
  refine lv_lookup C.1 C.2.1 hd hp ho ht ?_
  exact k g p l e R s m args below meth c H locs cells slots Qf lr _ C hc hs hR hS hL z0 hret
theorem Rn_ireturn {x : Int} (hr : M.2.2.2 = some .int) (hd : decode M.2.1 pc = .ok (.ireturn, 1)) (k : Q (some (vI x)) h n) : Rn d bc bs M pc ls [vI x] h n Q := by
  intro g p l e R s m args below meth c H locs cells slots Qf lr sr C hc hs hR hS hL hst hret
  obtain ⟨w, t0, rfl, r0, z0⟩ := sRel_cons hst
  have := sRel_nil z0; subst this
  exact hret H locs cells slots lr pc (some (vI x)) (some w) h n (by omega) (by omega) k hR hS r0 (by rw [hr]; exact trivial) (by rw [hr]; exact hd)
theorem Rn_lreturn {x : Int} (hr : M.2.2.2 = some .long) (hd : decode M.2.1 pc = .ok (.lreturn, 1)) (k : Q (some (vL x)) h n) : Rn d bc bs M pc ls [vL x] h n Q := by
  intro g p l e R s m args below meth c H locs cells slots Qf lr sr C hc hs hR hS hL hst hret
  obtain ⟨w, t0, rfl, r0, z0⟩ := sRel_cons hst
  have := sRel_nil z0; subst this
  exact hret H locs cells slots lr pc (some (vL x)) (some w) h n (by omega) (by omega) k hR hS r0 (by rw [hr]; exact trivial) (by rw [hr]; exact hd)
theorem Rn_zreturn {x : Int} (hr : M.2.2.2 = some .boolean) (hd : decode M.2.1 pc = .ok (.ireturn, 1)) (hx : x = 0 ∨ x = 1) (k : Q (some (vI x)) h n) : Rn d bc bs M pc ls [vI x] h n Q := by
  intro g p l e R s m args below meth c H locs cells slots Qf lr sr C hc hs hR hS hL hst hret
  obtain ⟨w, t0, rfl, r0, z0⟩ := sRel_cons hst
  have := sRel_nil z0; subst this
  exact hret H locs cells slots lr pc (some (vI x)) (some w) h n (by omega) (by omega) k hR hS r0 (by rw [hr]; exact hx) (by rw [hr]; exact hd)
theorem Rn_return (hr : M.2.2.2 = none) (hd : decode M.2.1 pc = .ok (.return_, 1)) (k : Q none h n) : Rn d bc bs M pc ls [] h n Q := by
  intro g p l e R s m args below meth c H locs cells slots Qf lr sr C hc hs hR hS hL hst hret
  have := sRel_nil hst; subst this
  exact hret H locs cells slots lr pc none none h n (by omega) (by omega) k hR hS trivial (by rw [hr]; exact trivial) (by rw [hr]; exact hd)
theorem Rn_areturn {x : Option Nat} {ty : FieldType} (hr : M.2.2.2 = some ty) (hty : ty.isReference = true) (hd : decode M.2.1 pc = .ok (.areturn, 1)) (k : Q (some (vR x)) h n) : Rn d bc bs M pc ls [vR x] h n Q := by
  intro g p l e R s m args below meth c H locs cells slots Qf lr sr C hc hs hR hS hL hst hret
  obtain ⟨w, t0, rfl, r0, z0⟩ := sRel_cons hst
  have := sRel_nil z0; subst this
  exact hret H locs cells slots lr pc (some (vR x)) (some w) h n (by omega) (by omega) k hR hS r0 (by rw [hr]; cases ty <;> first | exact trivial | cases hty) (by rw [hr]; cases ty <;> first | exact hd | cases hty)
end RULES
