section ROWS
variable {d nF : Nat} {mr : xMR} {pc : Nat} {ls : List (Option xV)} {st : List xV} {M : xM} {Q : Option xV → xM → Prop}
theorem w_iconst {n : Int} {v : Int32} (hdg : decode mr.2.2.1 pc = .ok (.iconst n, 1)) (hv : Int32.ofInt n = v) (k : Wp d nF mr (pc + 1) ls (vI v :: st) M Q) : Wp d nF mr pc ls (st) M Q := by
  intro l p e R s m args below meth c sa D cA A loc H locs cells slots lsA Qm hC hP hS hL hl hoL hoS hn hc hs hE
  exact lv_iconst hC.1 hC.2.1 hdg hv (k l p e R s m args below meth c sa D cA A loc H locs cells slots lsA Qm hC hP hS hL hl hoL ⟨trivial, hoS⟩ hn hc hs hE)
theorem w_bipush {n : Int} {v : Int32} (hdg : decode mr.2.2.1 pc = .ok (.bipush n, 2)) (hv : (Int8.ofInt n).toInt32 = v) (k : Wp d nF mr (pc + 2) ls (vI v :: st) M Q) : Wp d nF mr pc ls (st) M Q := by
  intro l p e R s m args below meth c sa D cA A loc H locs cells slots lsA Qm hC hP hS hL hl hoL hoS hn hc hs hE
  exact lv_bipush hC.1 hC.2.1 hdg hv (k l p e R s m args below meth c sa D cA A loc H locs cells slots lsA Qm hC hP hS hL hl hoL ⟨trivial, hoS⟩ hn hc hs hE)
theorem w_sipush {n : Int} {v : Int32} (hdg : decode mr.2.2.1 pc = .ok (.sipush n, 3)) (hv : (Int16.ofInt n).toInt32 = v) (k : Wp d nF mr (pc + 3) ls (vI v :: st) M Q) : Wp d nF mr pc ls (st) M Q := by
  intro l p e R s m args below meth c sa D cA A loc H locs cells slots lsA Qm hC hP hS hL hl hoL hoS hn hc hs hE
  exact lv_sipush hC.1 hC.2.1 hdg hv (k l p e R s m args below meth c sa D cA A loc H locs cells slots lsA Qm hC hP hS hL hl hoL ⟨trivial, hoS⟩ hn hc hs hE)
theorem w_lconst {n : Fin 2} {v : Int64} (hdg : decode mr.2.2.1 pc = .ok (.lconst n, 1)) (hv : Int64.ofNat (n : Nat) = v) (k : Wp d nF mr (pc + 1) ls (vL v :: st) M Q) : Wp d nF mr pc ls (st) M Q := by
  intro l p e R s m args below meth c sa D cA A loc H locs cells slots lsA Qm hC hP hS hL hl hoL hoS hn hc hs hE
  exact lv_lconst hC.1 hC.2.1 hdg hv (k l p e R s m args below meth c sa D cA A loc H locs cells slots lsA Qm hC hP hS hL hl hoL ⟨trivial, hoS⟩ hn hc hs hE)
theorem w_null (hdg : decode mr.2.2.1 pc = .ok (.aconst_null, 1)) (k : Wp d nF mr (pc + 1) ls (vN :: st) M Q) : Wp d nF mr pc ls (st) M Q := by
  intro l p e R s m args below meth c sa D cA A loc H locs cells slots lsA Qm hC hP hS hL hl hoL hoS hn hc hs hE
  exact lv_null hC.1 hC.2.1 hdg (k l p e R s m args below meth c sa D cA A loc H locs cells slots lsA Qm hC hP hS hL hl hoL ⟨trivial, hoS⟩ hn hc hs hE)
theorem w_ldc {idx : Nat} {v : Int32} (hdg : decode mr.2.2.1 pc = .ok (.ldc idx, 2)) (hk : Cond.constant mr.2.1.cls idx v ∈ xTbl) (k : Wp d nF mr (pc + 2) ls (vI v :: st) M Q) : Wp d nF mr pc ls (st) M Q := by
  intro l p e R s m args below meth c sa D cA A loc H locs cells slots lsA Qm hC hP hS hL hl hoL hoS hn hc hs hE
  exact lv_ldc hC.1 hC.2.1 hC.2.2.2.1 (hC.2.2.2.2.1 _ hk) hdg (k l p e R s m args below meth c sa D cA A loc H locs cells slots lsA Qm hC hP hS hL hl hoL ⟨trivial, hoS⟩ hn hc hs hE)
theorem w_ldcw {idx : Nat} {v : Int32} (hdg : decode mr.2.2.1 pc = .ok (.ldc_w idx, 3)) (hk : Cond.constant mr.2.1.cls idx v ∈ xTbl) (k : Wp d nF mr (pc + 3) ls (vI v :: st) M Q) : Wp d nF mr pc ls (st) M Q := by
  intro l p e R s m args below meth c sa D cA A loc H locs cells slots lsA Qm hC hP hS hL hl hoL hoS hn hc hs hE
  exact lv_ldcw hC.1 hC.2.1 hC.2.2.2.1 (hC.2.2.2.2.1 _ hk) hdg (k l p e R s m args below meth c sa D cA A loc H locs cells slots lsA Qm hC hP hS hL hl hoL ⟨trivial, hoS⟩ hn hc hs hE)
theorem w_ldc2 {idx : Nat} {v : Int64} (hdg : decode mr.2.2.1 pc = .ok (.ldc2_w idx, 3)) (hk : Cond.constantLong mr.2.1.cls idx v ∈ xTbl) (k : Wp d nF mr (pc + 3) ls (vL v :: st) M Q) : Wp d nF mr pc ls (st) M Q := by
  intro l p e R s m args below meth c sa D cA A loc H locs cells slots lsA Qm hC hP hS hL hl hoL hoS hn hc hs hE
  exact lv_ldc2 hC.1 hC.2.1 hC.2.2.2.1 (hC.2.2.2.2.1 _ hk) hdg (k l p e R s m args below meth c sa D cA A loc H locs cells slots lsA Qm hC hP hS hL hl hoL ⟨trivial, hoS⟩ hn hc hs hE)
theorem w_iadd {x y : Int32} (hdg : decode mr.2.2.1 pc = .ok (.iadd, 1)) (k : Wp d nF mr (pc + 1) ls (vI (x + y) :: st) M Q) : Wp d nF mr pc ls (vI y :: vI x :: st) M Q := by
  intro l p e R s m args below meth c sa D cA A loc H locs cells slots lsA Qm hC hP hS hL hl hoL hoS hn hc hs hE
  exact lv_iadd hC.1 hC.2.1 hdg (k l p e R s m args below meth c sa D cA A loc H locs cells slots lsA Qm hC hP hS hL hl hoL ⟨trivial, hoS.2.2⟩ hn hc hs hE)
theorem w_isub {x y : Int32} (hdg : decode mr.2.2.1 pc = .ok (.isub, 1)) (k : Wp d nF mr (pc + 1) ls (vI (x - y) :: st) M Q) : Wp d nF mr pc ls (vI y :: vI x :: st) M Q := by
  intro l p e R s m args below meth c sa D cA A loc H locs cells slots lsA Qm hC hP hS hL hl hoL hoS hn hc hs hE
  exact lv_isub hC.1 hC.2.1 hdg (k l p e R s m args below meth c sa D cA A loc H locs cells slots lsA Qm hC hP hS hL hl hoL ⟨trivial, hoS.2.2⟩ hn hc hs hE)
theorem w_imul {x y : Int32} (hdg : decode mr.2.2.1 pc = .ok (.imul, 1)) (k : Wp d nF mr (pc + 1) ls (vI (x * y) :: st) M Q) : Wp d nF mr pc ls (vI y :: vI x :: st) M Q := by
  intro l p e R s m args below meth c sa D cA A loc H locs cells slots lsA Qm hC hP hS hL hl hoL hoS hn hc hs hE
  exact lv_imul hC.1 hC.2.1 hdg (k l p e R s m args below meth c sa D cA A loc H locs cells slots lsA Qm hC hP hS hL hl hoL ⟨trivial, hoS.2.2⟩ hn hc hs hE)
theorem w_iand {x y : Int32} (hdg : decode mr.2.2.1 pc = .ok (.iand, 1)) (k : Wp d nF mr (pc + 1) ls (vI (x &&& y) :: st) M Q) : Wp d nF mr pc ls (vI y :: vI x :: st) M Q := by
  intro l p e R s m args below meth c sa D cA A loc H locs cells slots lsA Qm hC hP hS hL hl hoL hoS hn hc hs hE
  exact lv_iand hC.1 hC.2.1 hdg (k l p e R s m args below meth c sa D cA A loc H locs cells slots lsA Qm hC hP hS hL hl hoL ⟨trivial, hoS.2.2⟩ hn hc hs hE)
theorem w_ior {x y : Int32} (hdg : decode mr.2.2.1 pc = .ok (.ior, 1)) (k : Wp d nF mr (pc + 1) ls (vI (x ||| y) :: st) M Q) : Wp d nF mr pc ls (vI y :: vI x :: st) M Q := by
  intro l p e R s m args below meth c sa D cA A loc H locs cells slots lsA Qm hC hP hS hL hl hoL hoS hn hc hs hE
  exact lv_ior hC.1 hC.2.1 hdg (k l p e R s m args below meth c sa D cA A loc H locs cells slots lsA Qm hC hP hS hL hl hoL ⟨trivial, hoS.2.2⟩ hn hc hs hE)
theorem w_ixor {x y : Int32} (hdg : decode mr.2.2.1 pc = .ok (.ixor, 1)) (k : Wp d nF mr (pc + 1) ls (vI (x ^^^ y) :: st) M Q) : Wp d nF mr pc ls (vI y :: vI x :: st) M Q := by
  intro l p e R s m args below meth c sa D cA A loc H locs cells slots lsA Qm hC hP hS hL hl hoL hoS hn hc hs hE
  exact lv_ixor hC.1 hC.2.1 hdg (k l p e R s m args below meth c sa D cA A loc H locs cells slots lsA Qm hC hP hS hL hl hoL ⟨trivial, hoS.2.2⟩ hn hc hs hE)
theorem w_ishl {x y : Int32} (hdg : decode mr.2.2.1 pc = .ok (.ishl, 1)) (k : Wp d nF mr (pc + 1) ls (vI (x <<< (y &&& 31)) :: st) M Q) : Wp d nF mr pc ls (vI y :: vI x :: st) M Q := by
  intro l p e R s m args below meth c sa D cA A loc H locs cells slots lsA Qm hC hP hS hL hl hoL hoS hn hc hs hE
  exact lv_ishl hC.1 hC.2.1 hdg (k l p e R s m args below meth c sa D cA A loc H locs cells slots lsA Qm hC hP hS hL hl hoL ⟨trivial, hoS.2.2⟩ hn hc hs hE)
theorem w_ishr {x y : Int32} (hdg : decode mr.2.2.1 pc = .ok (.ishr, 1)) (k : Wp d nF mr (pc + 1) ls (vI (x >>> (y &&& 31)) :: st) M Q) : Wp d nF mr pc ls (vI y :: vI x :: st) M Q := by
  intro l p e R s m args below meth c sa D cA A loc H locs cells slots lsA Qm hC hP hS hL hl hoL hoS hn hc hs hE
  exact lv_ishr hC.1 hC.2.1 hdg (k l p e R s m args below meth c sa D cA A loc H locs cells slots lsA Qm hC hP hS hL hl hoL ⟨trivial, hoS.2.2⟩ hn hc hs hE)
theorem w_idiv {x y : Int32} (hdg : decode mr.2.2.1 pc = .ok (.idiv, 1)) (hne : ¬ y = 0) (k : Wp d nF mr (pc + 1) ls (vI (x / y) :: st) M Q) : Wp d nF mr pc ls (vI y :: vI x :: st) M Q := by
  intro l p e R s m args below meth c sa D cA A loc H locs cells slots lsA Qm hC hP hS hL hl hoL hoS hn hc hs hE
  exact lv_idiv hC.1 hC.2.1 hdg hne (k l p e R s m args below meth c sa D cA A loc H locs cells slots lsA Qm hC hP hS hL hl hoL ⟨trivial, hoS.2.2⟩ hn hc hs hE)
theorem w_irem {x y : Int32} (hdg : decode mr.2.2.1 pc = .ok (.irem, 1)) (hne : ¬ y = 0) (k : Wp d nF mr (pc + 1) ls (vI (x - x / y * y) :: st) M Q) : Wp d nF mr pc ls (vI y :: vI x :: st) M Q := by
  intro l p e R s m args below meth c sa D cA A loc H locs cells slots lsA Qm hC hP hS hL hl hoL hoS hn hc hs hE
  exact lv_irem hC.1 hC.2.1 hdg hne (k l p e R s m args below meth c sa D cA A loc H locs cells slots lsA Qm hC hP hS hL hl hoL ⟨trivial, hoS.2.2⟩ hn hc hs hE)
theorem w_ladd {x y : Int64} (hdg : decode mr.2.2.1 pc = .ok (.ladd, 1)) (k : Wp d nF mr (pc + 1) ls (vL (x + y) :: st) M Q) : Wp d nF mr pc ls (vL y :: vL x :: st) M Q := by
  intro l p e R s m args below meth c sa D cA A loc H locs cells slots lsA Qm hC hP hS hL hl hoL hoS hn hc hs hE
  exact lv_ladd hC.1 hC.2.1 hdg (k l p e R s m args below meth c sa D cA A loc H locs cells slots lsA Qm hC hP hS hL hl hoL ⟨trivial, hoS.2.2⟩ hn hc hs hE)
theorem w_lsub {x y : Int64} (hdg : decode mr.2.2.1 pc = .ok (.lsub, 1)) (k : Wp d nF mr (pc + 1) ls (vL (x - y) :: st) M Q) : Wp d nF mr pc ls (vL y :: vL x :: st) M Q := by
  intro l p e R s m args below meth c sa D cA A loc H locs cells slots lsA Qm hC hP hS hL hl hoL hoS hn hc hs hE
  exact lv_lsub hC.1 hC.2.1 hdg (k l p e R s m args below meth c sa D cA A loc H locs cells slots lsA Qm hC hP hS hL hl hoL ⟨trivial, hoS.2.2⟩ hn hc hs hE)
theorem w_lmul {x y : Int64} (hdg : decode mr.2.2.1 pc = .ok (.lmul, 1)) (k : Wp d nF mr (pc + 1) ls (vL (x * y) :: st) M Q) : Wp d nF mr pc ls (vL y :: vL x :: st) M Q := by
  intro l p e R s m args below meth c sa D cA A loc H locs cells slots lsA Qm hC hP hS hL hl hoL hoS hn hc hs hE
  exact lv_lmul hC.1 hC.2.1 hdg (k l p e R s m args below meth c sa D cA A loc H locs cells slots lsA Qm hC hP hS hL hl hoL ⟨trivial, hoS.2.2⟩ hn hc hs hE)
theorem w_ldiv {x y : Int64} (hdg : decode mr.2.2.1 pc = .ok (.ldiv, 1)) (hne : ¬ y = 0) (k : Wp d nF mr (pc + 1) ls (vL (x / y) :: st) M Q) : Wp d nF mr pc ls (vL y :: vL x :: st) M Q := by
  intro l p e R s m args below meth c sa D cA A loc H locs cells slots lsA Qm hC hP hS hL hl hoL hoS hn hc hs hE
  exact lv_ldiv hC.1 hC.2.1 hdg hne (k l p e R s m args below meth c sa D cA A loc H locs cells slots lsA Qm hC hP hS hL hl hoL ⟨trivial, hoS.2.2⟩ hn hc hs hE)
theorem w_lrem {x y : Int64} (hdg : decode mr.2.2.1 pc = .ok (.lrem, 1)) (hne : ¬ y = 0) (k : Wp d nF mr (pc + 1) ls (vL (x - x / y * y) :: st) M Q) : Wp d nF mr pc ls (vL y :: vL x :: st) M Q := by
  intro l p e R s m args below meth c sa D cA A loc H locs cells slots lsA Qm hC hP hS hL hl hoL hoS hn hc hs hE
  exact lv_lrem hC.1 hC.2.1 hdg hne (k l p e R s m args below meth c sa D cA A loc H locs cells slots lsA Qm hC hP hS hL hl hoL ⟨trivial, hoS.2.2⟩ hn hc hs hE)
theorem w_lcmp {x y : Int64} (hdg : decode mr.2.2.1 pc = .ok (.lcmp, 1)) (k : Wp d nF mr (pc + 1) ls (vI (lg_cmp x y) :: st) M Q) : Wp d nF mr pc ls (vL y :: vL x :: st) M Q := by
  intro l p e R s m args below meth c sa D cA A loc H locs cells slots lsA Qm hC hP hS hL hl hoL hoS hn hc hs hE
  exact W.lcmp hC.1 hC.2.1 hdg (k l p e R s m args below meth c sa D cA A loc H locs cells slots lsA Qm hC hP hS hL hl hoL ⟨trivial, hoS.2.2⟩ hn hc hs hE)
theorem w_i2l {x : Int32} (hdg : decode mr.2.2.1 pc = .ok (.i2l, 1)) (k : Wp d nF mr (pc + 1) ls (vL x.toInt64 :: st) M Q) : Wp d nF mr pc ls (vI x :: st) M Q := by
  intro l p e R s m args below meth c sa D cA A loc H locs cells slots lsA Qm hC hP hS hL hl hoL hoS hn hc hs hE
  exact lv_i2l hC.1 hC.2.1 hdg rfl (k l p e R s m args below meth c sa D cA A loc H locs cells slots lsA Qm hC hP hS hL hl hoL ⟨trivial, hoS.2⟩ hn hc hs hE)
theorem w_l2i {x : Int64} (hdg : decode mr.2.2.1 pc = .ok (.l2i, 1)) (k : Wp d nF mr (pc + 1) ls (vI x.toInt32 :: st) M Q) : Wp d nF mr pc ls (vL x :: st) M Q := by
  intro l p e R s m args below meth c sa D cA A loc H locs cells slots lsA Qm hC hP hS hL hl hoL hoS hn hc hs hE
  exact lv_l2i hC.1 hC.2.1 hdg rfl (k l p e R s m args below meth c sa D cA A loc H locs cells slots lsA Qm hC hP hS hL hl hoL ⟨trivial, hoS.2⟩ hn hc hs hE)
theorem w_i2b {x : Int32} (hdg : decode mr.2.2.1 pc = .ok (.i2b, 1)) (k : Wp d nF mr (pc + 1) ls (vI x.toInt8.toInt32 :: st) M Q) : Wp d nF mr pc ls (vI x :: st) M Q := by
  intro l p e R s m args below meth c sa D cA A loc H locs cells slots lsA Qm hC hP hS hL hl hoL hoS hn hc hs hE
  exact lv_i2b hC.1 hC.2.1 hdg rfl (k l p e R s m args below meth c sa D cA A loc H locs cells slots lsA Qm hC hP hS hL hl hoL ⟨trivial, hoS.2⟩ hn hc hs hE)
theorem w_i2s {x : Int32} (hdg : decode mr.2.2.1 pc = .ok (.i2s, 1)) (k : Wp d nF mr (pc + 1) ls (vI x.toInt16.toInt32 :: st) M Q) : Wp d nF mr pc ls (vI x :: st) M Q := by
  intro l p e R s m args below meth c sa D cA A loc H locs cells slots lsA Qm hC hP hS hL hl hoL hoS hn hc hs hE
  exact lv_i2s hC.1 hC.2.1 hdg rfl (k l p e R s m args below meth c sa D cA A loc H locs cells slots lsA Qm hC hP hS hL hl hoL ⟨trivial, hoS.2⟩ hn hc hs hE)
theorem w_iushr {x y v : Int32} (hdg : decode mr.2.2.1 pc = .ok (.iushr, 1)) (hv : (x.toUInt32 >>> (y.toUInt32 &&& Int32.toUInt32 31)).toInt32 = v) (k : Wp d nF mr (pc + 1) ls (vI v :: st) M Q) : Wp d nF mr pc ls (vI y :: vI x :: st) M Q := by
  intro l p e R s m args below meth c sa D cA A loc H locs cells slots lsA Qm hC hP hS hL hl hoL hoS hn hc hs hE
  exact lv_iushr hC.1 hC.2.1 hdg hv (k l p e R s m args below meth c sa D cA A loc H locs cells slots lsA Qm hC hP hS hL hl hoL ⟨trivial, hoS.2.2⟩ hn hc hs hE)
theorem xcat1 {loc : xId → Nat} {sa : Nat → Nat} {v : xV} (h : xLong (some v) = false) : (xrv loc sa v).category = 1 := (lv_cat _).elim id fun h2 => absurd (xLong_cat h2) (by rw [h]; decide)
theorem w_dup {v : xV} (hdg : decode mr.2.2.1 pc = .ok (.dup, 1)) (hv : xLong (some v) = false) (k : Wp d nF mr (pc + 1) ls (v :: v :: st) M Q) : Wp d nF mr pc ls (v :: st) M Q := by
  intro l p e R s m args below meth c sa D cA A loc H locs cells slots lsA Qm hC hP hS hL hl hoL hoS hn hc hs hE
  exact lv_dup hC.1 hC.2.1 hdg (xcat1 hv) (k l p e R s m args below meth c sa D cA A loc H locs cells slots lsA Qm hC hP hS hL hl hoL ⟨hoS.1, hoS⟩ hn hc hs hE)
theorem w_pop {v : xV} (hdg : decode mr.2.2.1 pc = .ok (.pop, 1)) (hv : xLong (some v) = false) (k : Wp d nF mr (pc + 1) ls (st) M Q) : Wp d nF mr pc ls (v :: st) M Q := by
  intro l p e R s m args below meth c sa D cA A loc H locs cells slots lsA Qm hC hP hS hL hl hoL hoS hn hc hs hE
  exact lv_pop hC.1 hC.2.1 hdg (xcat1 hv) (k l p e R s m args below meth c sa D cA A loc H locs cells slots lsA Qm hC hP hS hL hl hoL hoS.2 hn hc hs hE)
theorem w_dup2 {v w : xV} (hdg : decode mr.2.2.1 pc = .ok (.dup2, 1)) (hv : xLong (some v) = false) (hw : xLong (some w) = false) (k : Wp d nF mr (pc + 1) ls (v :: w :: v :: w :: st) M Q) : Wp d nF mr pc ls (v :: w :: st) M Q := by
  intro l p e R s m args below meth c sa D cA A loc H locs cells slots lsA Qm hC hP hS hL hl hoL hoS hn hc hs hE
  exact lv_dup2_11 hC.1 hC.2.1 hdg (xcat1 hv) (xcat1 hw) (k l p e R s m args below meth c sa D cA A loc H locs cells slots lsA Qm hC hP hS hL hl hoL ⟨hoS.1, hoS.2.1, hoS⟩ hn hc hs hE)
theorem xld {loc : xId → Nat} {sa : Nat → Nat} {nL i : Nat} {v : xV} {lsA : Array Slot} (hL : lv_has lsA nL (xLsF loc sa 0 ls)) (h : ls[i]? = some (some v)) : lsA[i]? = some (.val (xrv loc sa v)) := by
  have h1 := hL.2.2 _ (xLsF_get (loc := loc) (sa := sa) (o := 0) h)
  rw [Nat.zero_add] at h1
  exact h1
theorem w_iload_n {i : Fin 4} {x : Int32} (hdg : decode mr.2.2.1 pc = .ok (.iload_n i, 1)) (hg : ls[(i : Nat)]? = some (some (vI x))) (k : Wp d nF mr (pc + 1) ls (vI x :: st) M Q) : Wp d nF mr pc ls st M Q := by
  intro l p e R s m args below meth c sa D cA A loc H locs cells slots lsA Qm hC hP hS hL hl hoL hoS hn hc hs hE
  exact lv_iload_n hC.1 hC.2.1 hdg rfl (xld hL hg) (k l p e R s m args below meth c sa D cA A loc H locs cells slots lsA Qm hC hP hS hL hl hoL ⟨hoL _ _ hg, hoS⟩ hn hc hs hE)
theorem w_iload {i : Nat} {x : Int32} (hdg : decode mr.2.2.1 pc = .ok (.iload i, 2)) (hg : ls[(i : Nat)]? = some (some (vI x))) (k : Wp d nF mr (pc + 2) ls (vI x :: st) M Q) : Wp d nF mr pc ls st M Q := by
  intro l p e R s m args below meth c sa D cA A loc H locs cells slots lsA Qm hC hP hS hL hl hoL hoS hn hc hs hE
  exact lv_iload hC.1 hC.2.1 hdg (xld hL hg) (k l p e R s m args below meth c sa D cA A loc H locs cells slots lsA Qm hC hP hS hL hl hoL ⟨hoL _ _ hg, hoS⟩ hn hc hs hE)
theorem w_lload_n {i : Fin 4} {x : Int64} (hdg : decode mr.2.2.1 pc = .ok (.lload_n i, 1)) (hg : ls[(i : Nat)]? = some (some (vL x))) (k : Wp d nF mr (pc + 1) ls (vL x :: st) M Q) : Wp d nF mr pc ls st M Q := by
  intro l p e R s m args below meth c sa D cA A loc H locs cells slots lsA Qm hC hP hS hL hl hoL hoS hn hc hs hE
  exact lv_lload_n hC.1 hC.2.1 hdg rfl (xld hL hg) (k l p e R s m args below meth c sa D cA A loc H locs cells slots lsA Qm hC hP hS hL hl hoL ⟨hoL _ _ hg, hoS⟩ hn hc hs hE)
theorem w_lload {i : Nat} {x : Int64} (hdg : decode mr.2.2.1 pc = .ok (.lload i, 2)) (hg : ls[(i : Nat)]? = some (some (vL x))) (k : Wp d nF mr (pc + 2) ls (vL x :: st) M Q) : Wp d nF mr pc ls st M Q := by
  intro l p e R s m args below meth c sa D cA A loc H locs cells slots lsA Qm hC hP hS hL hl hoL hoS hn hc hs hE
  exact lv_lload hC.1 hC.2.1 hdg (xld hL hg) (k l p e R s m args below meth c sa D cA A loc H locs cells slots lsA Qm hC hP hS hL hl hoL ⟨hoL _ _ hg, hoS⟩ hn hc hs hE)
theorem w_aload_n {i : Fin 4} {w : Option xId ⊕ Nat} (hdg : decode mr.2.2.1 pc = .ok (.aload_n i, 1)) (hg : ls[(i : Nat)]? = some (some (.inr (.inr w)))) (k : Wp d nF mr (pc + 1) ls (.inr (.inr w) :: st) M Q) : Wp d nF mr pc ls st M Q := by
  intro l p e R s m args below meth c sa D cA A loc H locs cells slots lsA Qm hC hP hS hL hl hoL hoS hn hc hs hE
  have kk := (k l p e R s m args below meth c sa D cA A loc H locs cells slots lsA Qm hC hP hS hL hl hoL ⟨hoL _ _ hg, hoS⟩ hn hc hs hE)
  have hx := xld hL hg
  rcases w with (_ | w) | w
  · exact lv_aload_nN hC.1 hC.2.1 hdg rfl hx kk
  · exact lv_aload_n hC.1 hC.2.1 hdg rfl hx kk
  · exact lv_aload_n hC.1 hC.2.1 hdg rfl hx kk
theorem w_aload {i : Nat} {w : Option xId ⊕ Nat} (hdg : decode mr.2.2.1 pc = .ok (.aload i, 2)) (hg : ls[(i : Nat)]? = some (some (.inr (.inr w)))) (k : Wp d nF mr (pc + 2) ls (.inr (.inr w) :: st) M Q) : Wp d nF mr pc ls st M Q := by
  intro l p e R s m args below meth c sa D cA A loc H locs cells slots lsA Qm hC hP hS hL hl hoL hoS hn hc hs hE
  have kk := (k l p e R s m args below meth c sa D cA A loc H locs cells slots lsA Qm hC hP hS hL hl hoL ⟨hoL _ _ hg, hoS⟩ hn hc hs hE)
  have hx := xld hL hg
  rcases w with (_ | w) | w
  · exact lv_aloadN hC.1 hC.2.1 hdg hx kk
  · exact lv_aload hC.1 hC.2.1 hdg hx kk
  · exact lv_aload hC.1 hC.2.1 hdg hx kk
theorem w_istore_n {i : Fin 4} {x : Int32} {ls' : List (Option xV)} (hdg : decode mr.2.2.1 pc = .ok (.istore_n i, 1)) (hst : xSt1 ls (i : Nat) (vI x) = some ls') (k : Wp d nF mr (pc + 1) ls' st M Q) : Wp d nF mr pc ls (vI x :: st) M Q := by
  intro l p e R s m args below meth c sa D cA A loc H locs cells slots lsA Qm hC hP hS hL hl hoL hoS hn hc hs hE
  have hlt := (xSt1_spec hst).2.1
  rw [hl] at hlt
  exact lv_istore_n hC.1 hC.2.1 hdg rfl hL hlt rfl fun lsB hB => (k l p e R s m args below meth c sa D cA A loc H locs cells slots lsB Qm hC hP hS (xLs_st1 hst hB) ((xSt1_spec hst).1.trans hl) (xSt1_ok hst hoL hoS.1) hoS.2 hn hc hs hE)
theorem w_istore {i : Nat} {x : Int32} {ls' : List (Option xV)} (hdg : decode mr.2.2.1 pc = .ok (.istore i, 2)) (hst : xSt1 ls (i : Nat) (vI x) = some ls') (k : Wp d nF mr (pc + 2) ls' st M Q) : Wp d nF mr pc ls (vI x :: st) M Q := by
  intro l p e R s m args below meth c sa D cA A loc H locs cells slots lsA Qm hC hP hS hL hl hoL hoS hn hc hs hE
  have hlt := (xSt1_spec hst).2.1
  rw [hl] at hlt
  exact lv_istore hC.1 hC.2.1 hdg hL hlt rfl fun lsB hB => (k l p e R s m args below meth c sa D cA A loc H locs cells slots lsB Qm hC hP hS (xLs_st1 hst hB) ((xSt1_spec hst).1.trans hl) (xSt1_ok hst hoL hoS.1) hoS.2 hn hc hs hE)
theorem w_lstore_n {i : Fin 4} {x : Int64} {ls' : List (Option xV)} (hdg : decode mr.2.2.1 pc = .ok (.lstore_n i, 1)) (hst : xSt2 ls (i : Nat) (vL x) = some ls') (k : Wp d nF mr (pc + 1) ls' st M Q) : Wp d nF mr pc ls (vL x :: st) M Q := by
  intro l p e R s m args below meth c sa D cA A loc H locs cells slots lsA Qm hC hP hS hL hl hoL hoS hn hc hs hE
  have hlt := (xSt2_len hst).2
  rw [hl] at hlt
  exact lv_lstore_n hC.1 hC.2.1 hdg rfl hL hlt rfl fun lsB hB => (k l p e R s m args below meth c sa D cA A loc H locs cells slots lsB Qm hC hP hS (xLs_st2 hst hB) ((xSt2_len hst).1.trans hl) (xSt2_ok hst hoL hoS.1) hoS.2 hn hc hs hE)
theorem w_lstore {i : Nat} {x : Int64} {ls' : List (Option xV)} (hdg : decode mr.2.2.1 pc = .ok (.lstore i, 2)) (hst : xSt2 ls (i : Nat) (vL x) = some ls') (k : Wp d nF mr (pc + 2) ls' st M Q) : Wp d nF mr pc ls (vL x :: st) M Q := by
  intro l p e R s m args below meth c sa D cA A loc H locs cells slots lsA Qm hC hP hS hL hl hoL hoS hn hc hs hE
  have hlt := (xSt2_len hst).2
  rw [hl] at hlt
  exact lv_lstore hC.1 hC.2.1 hdg hL hlt rfl fun lsB hB => (k l p e R s m args below meth c sa D cA A loc H locs cells slots lsB Qm hC hP hS (xLs_st2 hst hB) ((xSt2_len hst).1.trans hl) (xSt2_ok hst hoL hoS.1) hoS.2 hn hc hs hE)
theorem w_astore_n {i : Fin 4} {w : Option xId ⊕ Nat} {ls' : List (Option xV)} (hdg : decode mr.2.2.1 pc = .ok (.astore_n i, 1)) (hst : xSt1 ls (i : Nat) (.inr (.inr w)) = some ls') (k : Wp d nF mr (pc + 1) ls' st M Q) : Wp d nF mr pc ls (.inr (.inr w) :: st) M Q := by
  intro l p e R s m args below meth c sa D cA A loc H locs cells slots lsA Qm hC hP hS hL hl hoL hoS hn hc hs hE
  have hlt := (xSt1_spec hst).2.1
  rw [hl] at hlt
  rcases w with (_ | w) | w
  · exact lv_astore_nN hC.1 hC.2.1 hdg rfl hL hlt rfl fun lsB hB => (k l p e R s m args below meth c sa D cA A loc H locs cells slots lsB Qm hC hP hS (xLs_st1 hst hB) ((xSt1_spec hst).1.trans hl) (xSt1_ok hst hoL hoS.1) hoS.2 hn hc hs hE)
  · exact lv_astore_n hC.1 hC.2.1 hdg rfl hL hlt rfl fun lsB hB => (k l p e R s m args below meth c sa D cA A loc H locs cells slots lsB Qm hC hP hS (xLs_st1 hst hB) ((xSt1_spec hst).1.trans hl) (xSt1_ok hst hoL hoS.1) hoS.2 hn hc hs hE)
  · exact lv_astore_n hC.1 hC.2.1 hdg rfl hL hlt rfl fun lsB hB => (k l p e R s m args below meth c sa D cA A loc H locs cells slots lsB Qm hC hP hS (xLs_st1 hst hB) ((xSt1_spec hst).1.trans hl) (xSt1_ok hst hoL hoS.1) hoS.2 hn hc hs hE)
theorem w_astore {i : Nat} {w : Option xId ⊕ Nat} {ls' : List (Option xV)} (hdg : decode mr.2.2.1 pc = .ok (.astore i, 2)) (hst : xSt1 ls (i : Nat) (.inr (.inr w)) = some ls') (k : Wp d nF mr (pc + 2) ls' st M Q) : Wp d nF mr pc ls (.inr (.inr w) :: st) M Q := by
  intro l p e R s m args below meth c sa D cA A loc H locs cells slots lsA Qm hC hP hS hL hl hoL hoS hn hc hs hE
  have hlt := (xSt1_spec hst).2.1
  rw [hl] at hlt
  rcases w with (_ | w) | w
  · exact lv_astoreN hC.1 hC.2.1 hdg hL hlt rfl fun lsB hB => (k l p e R s m args below meth c sa D cA A loc H locs cells slots lsB Qm hC hP hS (xLs_st1 hst hB) ((xSt1_spec hst).1.trans hl) (xSt1_ok hst hoL hoS.1) hoS.2 hn hc hs hE)
  · exact lv_astore hC.1 hC.2.1 hdg hL hlt rfl fun lsB hB => (k l p e R s m args below meth c sa D cA A loc H locs cells slots lsB Qm hC hP hS (xLs_st1 hst hB) ((xSt1_spec hst).1.trans hl) (xSt1_ok hst hoL hoS.1) hoS.2 hn hc hs hE)
  · exact lv_astore hC.1 hC.2.1 hdg hL hlt rfl fun lsB hB => (k l p e R s m args below meth c sa D cA A loc H locs cells slots lsB Qm hC hP hS (xLs_st1 hst hB) ((xSt1_spec hst).1.trans hl) (xSt1_ok hst hoL hoS.1) hoS.2 hn hc hs hE)
theorem w_iinc {i : Nat} {n : Int} {x v : Int32} {ls' : List (Option xV)} (hdg : decode mr.2.2.1 pc = .ok (.iinc i n, 3)) (hg : ls[i]? = some (some (vI x))) (hv : x + Int32.ofInt n = v) (hst : xSt1 ls i (vI v) = some ls') (k : Wp d nF mr (pc + 3) ls' st M Q) : Wp d nF mr pc ls st M Q := by
  intro l p e R s m args below meth c sa D cA A loc H locs cells slots lsA Qm hC hP hS hL hl hoL hoS hn hc hs hE
  have hlt := (xSt1_spec hst).2.1
  rw [hl] at hlt
  have hm := xLsF_get (loc := loc) (sa := sa) (o := 0) hg
  rw [Nat.zero_add] at hm
  obtain ⟨kx, hkx⟩ := List.getElem?_of_mem hm
  exact lv_iinc hC.1 hC.2.1 hdg hL hkx hv hlt rfl fun lsB hB => (k l p e R s m args below meth c sa D cA A loc H locs cells slots lsB Qm hC hP hS (xLs_st1 hst hB) ((xSt1_spec hst).1.trans hl) (xSt1_ok hst hoL trivial) hoS hn hc hs hE)
theorem w_if_eq {x : Int32} {off : Int} {tgt : Nat} (hdg : decode mr.2.2.1 pc = .ok (.ifCond .eq off, 3)) (ht : (pc : Int) + off = (tgt : Int)) (kt : x = 0 → Wp d nF mr tgt ls st M Q) (kf : ¬ x = 0 → Wp d nF mr (pc + 3) ls st M Q) : Wp d nF mr pc ls (vI x :: st) M Q := by
  intro l p e R s m args below meth c sa D cA A loc H locs cells slots lsA Qm hC hP hS hL hl hoL hoS hn hc hs hE
  exact lv_if_eq hC.1 hC.2.1 hdg ht (fun q => (kt q l p e R s m args below meth c sa D cA A loc H locs cells slots lsA Qm hC hP hS hL hl hoL hoS.2 hn hc hs hE)) (fun q => (kf q l p e R s m args below meth c sa D cA A loc H locs cells slots lsA Qm hC hP hS hL hl hoL hoS.2 hn hc hs hE))
theorem w_icmp_eq {x y : Int32} {off : Int} {tgt : Nat} (hdg : decode mr.2.2.1 pc = .ok (.if_icmp .eq off, 3)) (ht : (pc : Int) + off = (tgt : Int)) (kt : x = y → Wp d nF mr tgt ls st M Q) (kf : ¬ x = y → Wp d nF mr (pc + 3) ls st M Q) : Wp d nF mr pc ls (vI y :: vI x :: st) M Q := by
  intro l p e R s m args below meth c sa D cA A loc H locs cells slots lsA Qm hC hP hS hL hl hoL hoS hn hc hs hE
  exact lv_icmp_eq hC.1 hC.2.1 hdg ht (fun q => (kt q l p e R s m args below meth c sa D cA A loc H locs cells slots lsA Qm hC hP hS hL hl hoL hoS.2.2 hn hc hs hE)) (fun q => (kf q l p e R s m args below meth c sa D cA A loc H locs cells slots lsA Qm hC hP hS hL hl hoL hoS.2.2 hn hc hs hE))
theorem w_if_ne {x : Int32} {off : Int} {tgt : Nat} (hdg : decode mr.2.2.1 pc = .ok (.ifCond .ne off, 3)) (ht : (pc : Int) + off = (tgt : Int)) (kt : ¬ x = 0 → Wp d nF mr tgt ls st M Q) (kf : x = 0 → Wp d nF mr (pc + 3) ls st M Q) : Wp d nF mr pc ls (vI x :: st) M Q := by
  intro l p e R s m args below meth c sa D cA A loc H locs cells slots lsA Qm hC hP hS hL hl hoL hoS hn hc hs hE
  exact lv_if_ne hC.1 hC.2.1 hdg ht (fun q => (kt q l p e R s m args below meth c sa D cA A loc H locs cells slots lsA Qm hC hP hS hL hl hoL hoS.2 hn hc hs hE)) (fun q => (kf q l p e R s m args below meth c sa D cA A loc H locs cells slots lsA Qm hC hP hS hL hl hoL hoS.2 hn hc hs hE))
theorem w_icmp_ne {x y : Int32} {off : Int} {tgt : Nat} (hdg : decode mr.2.2.1 pc = .ok (.if_icmp .ne off, 3)) (ht : (pc : Int) + off = (tgt : Int)) (kt : ¬ x = y → Wp d nF mr tgt ls st M Q) (kf : x = y → Wp d nF mr (pc + 3) ls st M Q) : Wp d nF mr pc ls (vI y :: vI x :: st) M Q := by
  intro l p e R s m args below meth c sa D cA A loc H locs cells slots lsA Qm hC hP hS hL hl hoL hoS hn hc hs hE
  exact lv_icmp_ne hC.1 hC.2.1 hdg ht (fun q => (kt q l p e R s m args below meth c sa D cA A loc H locs cells slots lsA Qm hC hP hS hL hl hoL hoS.2.2 hn hc hs hE)) (fun q => (kf q l p e R s m args below meth c sa D cA A loc H locs cells slots lsA Qm hC hP hS hL hl hoL hoS.2.2 hn hc hs hE))
theorem w_if_lt {x : Int32} {off : Int} {tgt : Nat} (hdg : decode mr.2.2.1 pc = .ok (.ifCond .lt off, 3)) (ht : (pc : Int) + off = (tgt : Int)) (kt : x < 0 → Wp d nF mr tgt ls st M Q) (kf : ¬ x < 0 → Wp d nF mr (pc + 3) ls st M Q) : Wp d nF mr pc ls (vI x :: st) M Q := by
  intro l p e R s m args below meth c sa D cA A loc H locs cells slots lsA Qm hC hP hS hL hl hoL hoS hn hc hs hE
  exact lv_if_lt hC.1 hC.2.1 hdg ht (fun q => (kt q l p e R s m args below meth c sa D cA A loc H locs cells slots lsA Qm hC hP hS hL hl hoL hoS.2 hn hc hs hE)) (fun q => (kf q l p e R s m args below meth c sa D cA A loc H locs cells slots lsA Qm hC hP hS hL hl hoL hoS.2 hn hc hs hE))
theorem w_icmp_lt {x y : Int32} {off : Int} {tgt : Nat} (hdg : decode mr.2.2.1 pc = .ok (.if_icmp .lt off, 3)) (ht : (pc : Int) + off = (tgt : Int)) (kt : x < y → Wp d nF mr tgt ls st M Q) (kf : ¬ x < y → Wp d nF mr (pc + 3) ls st M Q) : Wp d nF mr pc ls (vI y :: vI x :: st) M Q := by
  intro l p e R s m args below meth c sa D cA A loc H locs cells slots lsA Qm hC hP hS hL hl hoL hoS hn hc hs hE
  exact lv_icmp_lt hC.1 hC.2.1 hdg ht (fun q => (kt q l p e R s m args below meth c sa D cA A loc H locs cells slots lsA Qm hC hP hS hL hl hoL hoS.2.2 hn hc hs hE)) (fun q => (kf q l p e R s m args below meth c sa D cA A loc H locs cells slots lsA Qm hC hP hS hL hl hoL hoS.2.2 hn hc hs hE))
theorem w_if_ge {x : Int32} {off : Int} {tgt : Nat} (hdg : decode mr.2.2.1 pc = .ok (.ifCond .ge off, 3)) (ht : (pc : Int) + off = (tgt : Int)) (kt : 0 ≤ x → Wp d nF mr tgt ls st M Q) (kf : ¬ 0 ≤ x → Wp d nF mr (pc + 3) ls st M Q) : Wp d nF mr pc ls (vI x :: st) M Q := by
  intro l p e R s m args below meth c sa D cA A loc H locs cells slots lsA Qm hC hP hS hL hl hoL hoS hn hc hs hE
  exact lv_if_ge hC.1 hC.2.1 hdg ht (fun q => (kt q l p e R s m args below meth c sa D cA A loc H locs cells slots lsA Qm hC hP hS hL hl hoL hoS.2 hn hc hs hE)) (fun q => (kf q l p e R s m args below meth c sa D cA A loc H locs cells slots lsA Qm hC hP hS hL hl hoL hoS.2 hn hc hs hE))
theorem w_icmp_ge {x y : Int32} {off : Int} {tgt : Nat} (hdg : decode mr.2.2.1 pc = .ok (.if_icmp .ge off, 3)) (ht : (pc : Int) + off = (tgt : Int)) (kt : y ≤ x → Wp d nF mr tgt ls st M Q) (kf : ¬ y ≤ x → Wp d nF mr (pc + 3) ls st M Q) : Wp d nF mr pc ls (vI y :: vI x :: st) M Q := by
  intro l p e R s m args below meth c sa D cA A loc H locs cells slots lsA Qm hC hP hS hL hl hoL hoS hn hc hs hE
  exact lv_icmp_ge hC.1 hC.2.1 hdg ht (fun q => (kt q l p e R s m args below meth c sa D cA A loc H locs cells slots lsA Qm hC hP hS hL hl hoL hoS.2.2 hn hc hs hE)) (fun q => (kf q l p e R s m args below meth c sa D cA A loc H locs cells slots lsA Qm hC hP hS hL hl hoL hoS.2.2 hn hc hs hE))
theorem w_if_gt {x : Int32} {off : Int} {tgt : Nat} (hdg : decode mr.2.2.1 pc = .ok (.ifCond .gt off, 3)) (ht : (pc : Int) + off = (tgt : Int)) (kt : 0 < x → Wp d nF mr tgt ls st M Q) (kf : ¬ 0 < x → Wp d nF mr (pc + 3) ls st M Q) : Wp d nF mr pc ls (vI x :: st) M Q := by
  intro l p e R s m args below meth c sa D cA A loc H locs cells slots lsA Qm hC hP hS hL hl hoL hoS hn hc hs hE
  exact lv_if_gt hC.1 hC.2.1 hdg ht (fun q => (kt q l p e R s m args below meth c sa D cA A loc H locs cells slots lsA Qm hC hP hS hL hl hoL hoS.2 hn hc hs hE)) (fun q => (kf q l p e R s m args below meth c sa D cA A loc H locs cells slots lsA Qm hC hP hS hL hl hoL hoS.2 hn hc hs hE))
theorem w_icmp_gt {x y : Int32} {off : Int} {tgt : Nat} (hdg : decode mr.2.2.1 pc = .ok (.if_icmp .gt off, 3)) (ht : (pc : Int) + off = (tgt : Int)) (kt : y < x → Wp d nF mr tgt ls st M Q) (kf : ¬ y < x → Wp d nF mr (pc + 3) ls st M Q) : Wp d nF mr pc ls (vI y :: vI x :: st) M Q := by
  intro l p e R s m args below meth c sa D cA A loc H locs cells slots lsA Qm hC hP hS hL hl hoL hoS hn hc hs hE
  exact lv_icmp_gt hC.1 hC.2.1 hdg ht (fun q => (kt q l p e R s m args below meth c sa D cA A loc H locs cells slots lsA Qm hC hP hS hL hl hoL hoS.2.2 hn hc hs hE)) (fun q => (kf q l p e R s m args below meth c sa D cA A loc H locs cells slots lsA Qm hC hP hS hL hl hoL hoS.2.2 hn hc hs hE))
theorem w_if_le {x : Int32} {off : Int} {tgt : Nat} (hdg : decode mr.2.2.1 pc = .ok (.ifCond .le off, 3)) (ht : (pc : Int) + off = (tgt : Int)) (kt : x ≤ 0 → Wp d nF mr tgt ls st M Q) (kf : ¬ x ≤ 0 → Wp d nF mr (pc + 3) ls st M Q) : Wp d nF mr pc ls (vI x :: st) M Q := by
  intro l p e R s m args below meth c sa D cA A loc H locs cells slots lsA Qm hC hP hS hL hl hoL hoS hn hc hs hE
  exact lv_if_le hC.1 hC.2.1 hdg ht (fun q => (kt q l p e R s m args below meth c sa D cA A loc H locs cells slots lsA Qm hC hP hS hL hl hoL hoS.2 hn hc hs hE)) (fun q => (kf q l p e R s m args below meth c sa D cA A loc H locs cells slots lsA Qm hC hP hS hL hl hoL hoS.2 hn hc hs hE))
theorem w_icmp_le {x y : Int32} {off : Int} {tgt : Nat} (hdg : decode mr.2.2.1 pc = .ok (.if_icmp .le off, 3)) (ht : (pc : Int) + off = (tgt : Int)) (kt : x ≤ y → Wp d nF mr tgt ls st M Q) (kf : ¬ x ≤ y → Wp d nF mr (pc + 3) ls st M Q) : Wp d nF mr pc ls (vI y :: vI x :: st) M Q := by
  intro l p e R s m args below meth c sa D cA A loc H locs cells slots lsA Qm hC hP hS hL hl hoL hoS hn hc hs hE
  exact lv_icmp_le hC.1 hC.2.1 hdg ht (fun q => (kt q l p e R s m args below meth c sa D cA A loc H locs cells slots lsA Qm hC hP hS hL hl hoL hoS.2.2 hn hc hs hE)) (fun q => (kf q l p e R s m args below meth c sa D cA A loc H locs cells slots lsA Qm hC hP hS hL hl hoL hoS.2.2 hn hc hs hE))
theorem w_goto {off : Int} {tgt : Nat} (hdg : decode mr.2.2.1 pc = .ok (.goto off, 3)) (ht : (pc : Int) + off = (tgt : Int)) (k : Wp d nF mr tgt ls st M Q) : Wp d nF mr pc ls st M Q := by
  intro l p e R s m args below meth c sa D cA A loc H locs cells slots lsA Qm hC hP hS hL hl hoL hoS hn hc hs hE
  exact lv_goto hC.1 hC.2.1 hdg ht (k l p e R s m args below meth c sa D cA A loc H locs cells slots lsA Qm hC hP hS hL hl hoL hoS hn hc hs hE)
theorem w_ifnull {w : Option xId} {off : Int} {tgt : Nat} (hdg : decode mr.2.2.1 pc = .ok (.ifnull off, 3)) (ht : (pc : Int) + off = (tgt : Int)) (kt : w = none → Wp d nF mr tgt ls st M Q) (kf : ∀ i, w = some i → Wp d nF mr (pc + 3) ls st M Q) : Wp d nF mr pc ls (vO w :: st) M Q := by
  intro l p e R s m args below meth c sa D cA A loc H locs cells slots lsA Qm hC hP hS hL hl hoL hoS hn hc hs hE
  rcases w with _ | w
  · exact lv_ifnullN hC.1 hC.2.1 hdg ht (kt rfl l p e R s m args below meth c sa D cA A loc H locs cells slots lsA Qm hC hP hS hL hl hoL hoS.2 hn hc hs hE)
  · exact lv_ifnull hC.1 hC.2.1 hdg (kf w rfl l p e R s m args below meth c sa D cA A loc H locs cells slots lsA Qm hC hP hS hL hl hoL hoS.2 hn hc hs hE)
theorem w_ifnonnull {w : Option xId} {off : Int} {tgt : Nat} (hdg : decode mr.2.2.1 pc = .ok (.ifnonnull off, 3)) (ht : (pc : Int) + off = (tgt : Int)) (kt : ∀ i, w = some i → Wp d nF mr tgt ls st M Q) (kf : w = none → Wp d nF mr (pc + 3) ls st M Q) : Wp d nF mr pc ls (vO w :: st) M Q := by
  intro l p e R s m args below meth c sa D cA A loc H locs cells slots lsA Qm hC hP hS hL hl hoL hoS hn hc hs hE
  rcases w with _ | w
  · exact lv_ifnonnullN hC.1 hC.2.1 hdg (kf rfl l p e R s m args below meth c sa D cA A loc H locs cells slots lsA Qm hC hP hS hL hl hoL hoS.2 hn hc hs hE)
  · exact lv_ifnonnull hC.1 hC.2.1 hdg ht (kt w rfl l p e R s m args below meth c sa D cA A loc H locs cells slots lsA Qm hC hP hS hL hl hoL hoS.2 hn hc hs hE)
theorem w_tabIn {dflt lo hi : Int} {offs : Array Int} {len : Nat} {x : Int32} {off : Int} {tgt : Nat} (hdg : decode mr.2.2.1 pc = .ok (.tableswitch dflt lo hi offs, len)) (h1 : ¬ x.toInt < lo) (h2 : ¬ hi < x.toInt) (ho : offs[(x.toInt - lo).toNat]? = some off) (ht : (pc : Int) + off = (tgt : Int)) (k : Wp d nF mr tgt ls st M Q) : Wp d nF mr pc ls (vI x :: st) M Q := by
  intro l p e R s m args below meth c sa D cA A loc H locs cells slots lsA Qm hC hP hS hL hl hoL hoS hn hc hs hE
  exact lv_tableIn hC.1 hC.2.1 hdg h1 h2 ho ht (k l p e R s m args below meth c sa D cA A loc H locs cells slots lsA Qm hC hP hS hL hl hoL hoS.2 hn hc hs hE)
theorem w_tabOut {dflt lo hi : Int} {offs : Array Int} {len : Nat} {x : Int32} {tgt : Nat} (hdg : decode mr.2.2.1 pc = .ok (.tableswitch dflt lo hi offs, len)) (h : x.toInt < lo ∨ hi < x.toInt) (ht : (pc : Int) + dflt = (tgt : Int)) (k : Wp d nF mr tgt ls st M Q) : Wp d nF mr pc ls (vI x :: st) M Q := by
  intro l p e R s m args below meth c sa D cA A loc H locs cells slots lsA Qm hC hP hS hL hl hoL hoS hn hc hs hE
  exact lv_tableOut hC.1 hC.2.1 hdg h ht (k l p e R s m args below meth c sa D cA A loc H locs cells slots lsA Qm hC hP hS hL hl hoL hoS.2 hn hc hs hE)
theorem xEndIt {v : Option xV} (hq : Q v M) (hM : M.1 = nF) (hr : xRet mr v pc) (hst : st = v.toList) : Wp d nF mr pc ls st M Q := by
  subst hst
  intro l p e R s m args below meth c sa D cA A loc H locs cells slots lsA Qm hC hP hS hL hl hoL hoS hn hc hs hE
  have e1 : nF - M.1 = 0 := by omega
  have e2 : xCum nF - xCum M.1 = 0 := by rw [hM]; exact Nat.sub_self _
  have h := hE v M loc H locs pc lsA hq hM (fun _ _ => rfl) hP hS (by
    cases v with
    | none => trivial
    | some w => rw [← hM]; exact hoS.1) hr
  rw [e1, e2] at h
  exact h
theorem w_return (hdg : decode mr.2.2.1 pc = .ok (.return_, 1)) (hr : mr.2.2.2.2 = none) (hM : M.1 = nF) (hq : Q none M) : Wp d nF mr pc ls [] M Q := xEndIt hq hM ⟨hdg, hr⟩ rfl
theorem w_ireturn {x : Int32} {ty : FieldType} (hdg : decode mr.2.2.1 pc = .ok (.ireturn, 1)) (hr : mr.2.2.2.2 = some ty) (hn : narrow ty (.int x) = .int x) (hM : M.1 = nF) (hq : Q (some (vI x)) M) : Wp d nF mr pc ls [vI x] M Q := xEndIt hq hM ⟨hdg, ty, hr, hn⟩ rfl
theorem w_lreturn {x : Int64} (hdg : decode mr.2.2.1 pc = .ok (.lreturn, 1)) (hr : mr.2.2.2.2 = some .long) (hM : M.1 = nF) (hq : Q (some (vL x)) M) : Wp d nF mr pc ls [vL x] M Q := xEndIt hq hM ⟨hdg, hr⟩ rfl
theorem w_areturn {w : Option xId ⊕ Nat} {nm : String} (hdg : decode mr.2.2.1 pc = .ok (.areturn, 1)) (hr : mr.2.2.2.2 = some (.object nm)) (hM : M.1 = nF) (hq : Q (some (.inr (.inr w))) M) : Wp d nF mr pc ls [.inr (.inr w)] M Q := xEndIt hq hM ⟨hdg, nm, hr⟩ rfl
end ROWS
