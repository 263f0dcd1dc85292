section JFR
variable {E : jE} {own : String} {cc : ByteArray} {nL : Nat} {rt : Option FieldType} {R : Room} {Z : Code → List Frame → Array Value → State → State → Prop} {cs ss pc : Nat} {ls : List (Option jV)} {st : List jV} {I : jI} {P : jP}
theorem jJ_iconst {n : Int} (hd : decode cc pc = .ok (.iconst n, 1)) (hn : jR n) (k : jJ E own cc nL rt R Z cs ss (pc + 1) (ls) (ji n :: st) (I) (P)) : jJ E own cc nL rt R Z cs ss (pc) (ls) (st) (I) (P) := by
  intro p e s m args below meth c H locs la hc hH hS hl h1 h2
  exact lv_iconst hc.1 hc.2.1 hd rfl (k p e s m args below meth c H locs la hc hH hS hl h1 ⟨hn, h2⟩)
theorem jJ_bipush {n : Int} (hd : decode cc pc = .ok (.bipush n, 2)) (hn : (Int8.ofInt n).toInt32 = Int32.ofInt n ∧ jR n) (k : jJ E own cc nL rt R Z cs ss (pc + 2) (ls) (ji n :: st) (I) (P)) : jJ E own cc nL rt R Z cs ss (pc) (ls) (st) (I) (P) := by
  intro p e s m args below meth c H locs la hc hH hS hl h1 h2
  exact lv_bipush hc.1 hc.2.1 hd hn.1 (k p e s m args below meth c H locs la hc hH hS hl h1 ⟨hn.2, h2⟩)
theorem jJ_sipush {n : Int} (hd : decode cc pc = .ok (.sipush n, 3)) (hn : (Int16.ofInt n).toInt32 = Int32.ofInt n ∧ jR n) (k : jJ E own cc nL rt R Z cs ss (pc + 3) (ls) (ji n :: st) (I) (P)) : jJ E own cc nL rt R Z cs ss (pc) (ls) (st) (I) (P) := by
  intro p e s m args below meth c H locs la hc hH hS hl h1 h2
  exact lv_sipush hc.1 hc.2.1 hd hn.1 (k p e s m args below meth c H locs la hc hH hS hl h1 ⟨hn.2, h2⟩)
theorem jJ_ldc {idx : Nat} {n : Int} (hd : decode cc pc = .ok (.ldc idx, 2)) (hn : Cond.constant own idx (Int32.ofInt n) ∈ jT ∧ jR n) (k : jJ E own cc nL rt R Z cs ss (pc + 2) (ls) (ji n :: st) (I) (P)) : jJ E own cc nL rt R Z cs ss (pc) (ls) (st) (I) (P) := by
  intro p e s m args below meth c H locs la hc hH hS hl h1 h2
  exact lv_ldc hc.1 hc.2.1 hc.2.2.2.2.1 (hc.2.2.2.2.2.1 _ hn.1) hd (k p e s m args below meth c H locs la hc hH hS hl h1 ⟨hn.2, h2⟩)
theorem jJ_ldcS {idx i : Nat} (hd : decode cc pc = .ok (.ldc idx, 2)) (hn : (own, idx, i) ∈ jSR) (k : jJ E own cc nL rt R Z cs ss (pc + 2) (ls) (jp (eSk E i) :: st) (I) (P)) : jJ E own cc nL rt R Z cs ss (pc) (ls) (st) (I) (P) := by
  intro p e s m args below meth c H locs la hc hH hS hl h1 h2
  exact va_ldcS hc.1 hc.2.1 hc.2.2.2.2.1 (hc.2.2.2.2.2.2.2.2.1.2.1.2 _ hn) hd (k p e s m args below meth c H locs la hc hH hS hl h1 ⟨trivial, h2⟩)
theorem jJ_iload_n {k : Fin 4} {x : Int} (hd : decode cc pc = .ok (.iload_n k, 1)) (hx : ls[(k : Nat)]? = some (some (ji x))) (kk : jJ E own cc nL rt R Z cs ss (pc + 1) (ls) (ji x :: st) (I) (P)) : jJ E own cc nL rt R Z cs ss (pc) (ls) (st) (I) (P) := by
  intro p e s m args below meth c H locs la hc hH hS hl h1 h2
  exact lv_iload_n hc.1 hc.2.1 hd rfl (hl.at hx) (kk p e s m args below meth c H locs la hc hH hS hl h1 ⟨h1 _ _ hx, h2⟩)
theorem jJ_iload {k : Nat} {x : Int} (hd : decode cc pc = .ok (.iload k, 2)) (hx : ls[k]? = some (some (ji x))) (kk : jJ E own cc nL rt R Z cs ss (pc + 2) (ls) (ji x :: st) (I) (P)) : jJ E own cc nL rt R Z cs ss (pc) (ls) (st) (I) (P) := by
  intro p e s m args below meth c H locs la hc hH hS hl h1 h2
  exact lv_iload hc.1 hc.2.1 hd (hl.at hx) (kk p e s m args below meth c H locs la hc hH hS hl h1 ⟨h1 _ _ hx, h2⟩)
theorem jJ_aload_n {k : Fin 4} {x : Nat} (hd : decode cc pc = .ok (.aload_n k, 1)) (hx : ls[(k : Nat)]? = some (some (jp x))) (kk : jJ E own cc nL rt R Z cs ss (pc + 1) (ls) (jp x :: st) (I) (P)) : jJ E own cc nL rt R Z cs ss (pc) (ls) (st) (I) (P) := by
  intro p e s m args below meth c H locs la hc hH hS hl h1 h2
  exact lv_aload_n hc.1 hc.2.1 hd rfl (hl.at hx) (kk p e s m args below meth c H locs la hc hH hS hl h1 ⟨h1 _ _ hx, h2⟩)
theorem jJ_aload {k : Nat} {x : Nat} (hd : decode cc pc = .ok (.aload k, 2)) (hx : ls[k]? = some (some (jp x))) (kk : jJ E own cc nL rt R Z cs ss (pc + 2) (ls) (jp x :: st) (I) (P)) : jJ E own cc nL rt R Z cs ss (pc) (ls) (st) (I) (P) := by
  intro p e s m args below meth c H locs la hc hH hS hl h1 h2
  exact lv_aload hc.1 hc.2.1 hd (hl.at hx) (kk p e s m args below meth c H locs la hc hH hS hl h1 ⟨h1 _ _ hx, h2⟩)
theorem jJ_istore_n {k : Fin 4} {x : Int} {ls' : List (Option jV)} (hd : decode cc pc = .ok (.istore_n k, 1)) (hk : (k : Nat) < ls.length) (hx : ls.set (k : Nat) (some (ji x)) = ls') (kk : jJ E own cc nL rt R Z cs ss (pc + 1) (ls') (st) (I) (P)) : jJ E own cc nL rt R Z cs ss (pc) (ls) (ji x :: st) (I) (P) := by
  intro p e s m args below meth c H locs la hc hH hS hl h1 h2
  subst hx
  exact lv_istore_n hc.1 hc.2.1 hd rfl hl.1 (by rw [← hl.2.1]; exact hk) rfl (fun la2 hl2 => kk p e s m args below meth c H locs la2 hc hH hS (hl.set rfl hl2) (h1.set h2.1) h2.2)
theorem jJ_istore {k : Nat} {x : Int} {ls' : List (Option jV)} (hd : decode cc pc = .ok (.istore k, 2)) (hk : k < ls.length) (hx : ls.set k (some (ji x)) = ls') (kk : jJ E own cc nL rt R Z cs ss (pc + 2) (ls') (st) (I) (P)) : jJ E own cc nL rt R Z cs ss (pc) (ls) (ji x :: st) (I) (P) := by
  intro p e s m args below meth c H locs la hc hH hS hl h1 h2
  subst hx
  exact lv_istore hc.1 hc.2.1 hd hl.1 (by rw [← hl.2.1]; exact hk) rfl (fun la2 hl2 => kk p e s m args below meth c H locs la2 hc hH hS (hl.set rfl hl2) (h1.set h2.1) h2.2)
theorem jJ_astore_n {k : Fin 4} {x : Nat} {ls' : List (Option jV)} (hd : decode cc pc = .ok (.astore_n k, 1)) (hk : (k : Nat) < ls.length) (hx : ls.set (k : Nat) (some (jp x)) = ls') (kk : jJ E own cc nL rt R Z cs ss (pc + 1) (ls') (st) (I) (P)) : jJ E own cc nL rt R Z cs ss (pc) (ls) (jp x :: st) (I) (P) := by
  intro p e s m args below meth c H locs la hc hH hS hl h1 h2
  subst hx
  exact lv_astore_n hc.1 hc.2.1 hd rfl hl.1 (by rw [← hl.2.1]; exact hk) rfl (fun la2 hl2 => kk p e s m args below meth c H locs la2 hc hH hS (hl.set rfl hl2) (h1.set h2.1) h2.2)
theorem jJ_astore {k : Nat} {x : Nat} {ls' : List (Option jV)} (hd : decode cc pc = .ok (.astore k, 2)) (hk : k < ls.length) (hx : ls.set k (some (jp x)) = ls') (kk : jJ E own cc nL rt R Z cs ss (pc + 2) (ls') (st) (I) (P)) : jJ E own cc nL rt R Z cs ss (pc) (ls) (jp x :: st) (I) (P) := by
  intro p e s m args below meth c H locs la hc hH hS hl h1 h2
  subst hx
  exact lv_astore hc.1 hc.2.1 hd hl.1 (by rw [← hl.2.1]; exact hk) rfl (fun la2 hl2 => kk p e s m args below meth c H locs la2 hc hH hS (hl.set rfl hl2) (h1.set h2.1) h2.2)
theorem jJ_iinc {k : Nat} {n x : Int} {ls' : List (Option jV)} (hd : decode cc pc = .ok (.iinc k n, 3)) (hx : ls[k]? = some (some (ji x))) (hr : jR (x + n)) (hs : ls.set k (some (ji (x + n))) = ls') (kk : jJ E own cc nL rt R Z cs ss (pc + 3) (ls') (st) (I) (P)) : jJ E own cc nL rt R Z cs ss (pc) (ls) (st) (I) (P) := by
  intro p e s m args below meth c H locs la hc hH hS hl h1 h2
  subst hs
  obtain ⟨j, hj⟩ := List.getElem?_of_mem (jLl_mem.mpr ⟨_, hx, rfl⟩)
  exact lv_iinc hc.1 hc.2.1 hd hl.1 (k := j) hj (Int32.ofInt_add x n).symm (by rw [← hl.2.1]; exact (List.getElem?_eq_some_iff.mp hx).1) rfl (fun la2 hl2 => kk p e s m args below meth c H locs la2 hc hH hS (hl.set (v := ji (x + n)) rfl hl2) (h1.set hr) h2)
theorem jJ_dup {v : jV} (hd : decode cc pc = .ok (.dup, 1)) (hv : (jc v).category = 1) (k : jJ E own cc nL rt R Z cs ss (pc + 1) (ls) (v :: v :: st) (I) (P)) : jJ E own cc nL rt R Z cs ss (pc) (ls) (v :: st) (I) (P) := by
  intro p e s m args below meth c H locs la hc hH hS hl h1 h2
  exact lv_dup hc.1 hc.2.1 hd hv (k p e s m args below meth c H locs la hc hH hS hl h1 ⟨h2.1, h2.1, h2.2⟩)
theorem jJ_dup2 {v w : jV} (hd : decode cc pc = .ok (.dup2, 1)) (hv : (jc v).category = 1) (hw : (jc w).category = 1) (k : jJ E own cc nL rt R Z cs ss (pc + 1) (ls) (v :: w :: v :: w :: st) (I) (P)) : jJ E own cc nL rt R Z cs ss (pc) (ls) (v :: w :: st) (I) (P) := by
  intro p e s m args below meth c H locs la hc hH hS hl h1 h2
  exact lv_dup2_11 hc.1 hc.2.1 hd hv hw (k p e s m args below meth c H locs la hc hH hS hl h1 ⟨h2.1, h2.2.1, h2.1, h2.2.1, h2.2.2⟩)
theorem jJ_pop {v : jV} (hd : decode cc pc = .ok (.pop, 1)) (hv : (jc v).category = 1) (k : jJ E own cc nL rt R Z cs ss (pc + 1) (ls) (st) (I) (P)) : jJ E own cc nL rt R Z cs ss (pc) (ls) (v :: st) (I) (P) := by
  intro p e s m args below meth c H locs la hc hH hS hl h1 h2
  exact lv_pop hc.1 hc.2.1 hd hv (k p e s m args below meth c H locs la hc hH hS hl h1 h2.2)
theorem jJ_iadd {x y : Int} (hd : decode cc pc = .ok (.iadd, 1)) (hr : jR (x + y)) (k : jJ E own cc nL rt R Z cs ss (pc + 1) (ls) (ji (x + y) :: st) (I) (P)) : jJ E own cc nL rt R Z cs ss (pc) (ls) (ji y :: ji x :: st) (I) (P) := by
  intro p e s m args below meth c H locs la hc hH hS hl h1 h2
  refine lv_iadd hc.1 hc.2.1 hd ?_
  rw [← Int32.ofInt_add]
  exact k p e s m args below meth c H locs la hc hH hS hl h1 ⟨hr, h2.2.2⟩
theorem jJ_isub {x y : Int} (hd : decode cc pc = .ok (.isub, 1)) (hr : jR (x - y)) (k : jJ E own cc nL rt R Z cs ss (pc + 1) (ls) (ji (x - y) :: st) (I) (P)) : jJ E own cc nL rt R Z cs ss (pc) (ls) (ji y :: ji x :: st) (I) (P) := by
  intro p e s m args below meth c H locs la hc hH hS hl h1 h2
  refine lv_isub hc.1 hc.2.1 hd ?_
  rw [← Int32.ofInt_sub]
  exact k p e s m args below meth c H locs la hc hH hS hl h1 ⟨hr, h2.2.2⟩
theorem jJ_imul {x y : Int} (hd : decode cc pc = .ok (.imul, 1)) (hr : jR (x * y)) (k : jJ E own cc nL rt R Z cs ss (pc + 1) (ls) (ji (x * y) :: st) (I) (P)) : jJ E own cc nL rt R Z cs ss (pc) (ls) (ji y :: ji x :: st) (I) (P) := by
  intro p e s m args below meth c H locs la hc hH hS hl h1 h2
  refine lv_imul hc.1 hc.2.1 hd ?_
  rw [← Int32.ofInt_mul]
  exact k p e s m args below meth c H locs la hc hH hS hl h1 ⟨hr, h2.2.2⟩
def jAnd (x y : Int) : Int := (Int32.ofInt x &&& Int32.ofInt y).toInt
theorem jJ_iand {x y : Int} (hd : decode cc pc = .ok (.iand, 1)) (k : jJ E own cc nL rt R Z cs ss (pc + 1) (ls) (ji (jAnd x y) :: st) (I) (P)) : jJ E own cc nL rt R Z cs ss (pc) (ls) (ji y :: ji x :: st) (I) (P) := by
  intro p e s m args below meth c H locs la hc hH hS hl h1 h2
  refine lv_iand hc.1 hc.2.1 hd ?_
  have h := k p e s m args below meth c H locs la hc hH hS hl h1 ⟨jR32 _, h2.2.2⟩
  have e1 : jc (ji (jAnd x y)) = .int (Int32.ofInt x &&& Int32.ofInt y) := congrArg Value.int (Int32.ofInt_toInt _)
  rw [List.map_cons, e1] at h
  exact h
def jOr (x y : Int) : Int := (Int32.ofInt x ||| Int32.ofInt y).toInt
theorem jJ_ior {x y : Int} (hd : decode cc pc = .ok (.ior, 1)) (k : jJ E own cc nL rt R Z cs ss (pc + 1) (ls) (ji (jOr x y) :: st) (I) (P)) : jJ E own cc nL rt R Z cs ss (pc) (ls) (ji y :: ji x :: st) (I) (P) := by
  intro p e s m args below meth c H locs la hc hH hS hl h1 h2
  refine lv_ior hc.1 hc.2.1 hd ?_
  have h := k p e s m args below meth c H locs la hc hH hS hl h1 ⟨jR32 _, h2.2.2⟩
  have e1 : jc (ji (jOr x y)) = .int (Int32.ofInt x ||| Int32.ofInt y) := congrArg Value.int (Int32.ofInt_toInt _)
  rw [List.map_cons, e1] at h
  exact h
def jShl (x y : Int) : Int := (Int32.ofInt x <<< (Int32.ofInt y &&& 31)).toInt
theorem jJ_ishl {x y : Int} (hd : decode cc pc = .ok (.ishl, 1)) (k : jJ E own cc nL rt R Z cs ss (pc + 1) (ls) (ji (jShl x y) :: st) (I) (P)) : jJ E own cc nL rt R Z cs ss (pc) (ls) (ji y :: ji x :: st) (I) (P) := by
  intro p e s m args below meth c H locs la hc hH hS hl h1 h2
  refine lv_ishl hc.1 hc.2.1 hd ?_
  have h := k p e s m args below meth c H locs la hc hH hS hl h1 ⟨jR32 _, h2.2.2⟩
  have e1 : jc (ji (jShl x y)) = .int (Int32.ofInt x <<< (Int32.ofInt y &&& 31)) := congrArg Value.int (Int32.ofInt_toInt _)
  rw [List.map_cons, e1] at h
  exact h
def jShr (x y : Int) : Int := (Int32.ofInt x >>> (Int32.ofInt y &&& 31)).toInt
theorem jJ_ishr {x y : Int} (hd : decode cc pc = .ok (.ishr, 1)) (k : jJ E own cc nL rt R Z cs ss (pc + 1) (ls) (ji (jShr x y) :: st) (I) (P)) : jJ E own cc nL rt R Z cs ss (pc) (ls) (ji y :: ji x :: st) (I) (P) := by
  intro p e s m args below meth c H locs la hc hH hS hl h1 h2
  refine lv_ishr hc.1 hc.2.1 hd ?_
  have h := k p e s m args below meth c H locs la hc hH hS hl h1 ⟨jR32 _, h2.2.2⟩
  have e1 : jc (ji (jShr x y)) = .int (Int32.ofInt x >>> (Int32.ofInt y &&& 31)) := congrArg Value.int (Int32.ofInt_toInt _)
  rw [List.map_cons, e1] at h
  exact h
def jB (x : Int) : Int := ((Int32.ofInt x).toInt8.toInt32).toInt
theorem jJ_i2b {x : Int} (hd : decode cc pc = .ok (.i2b, 1)) (k : jJ E own cc nL rt R Z cs ss (pc + 1) (ls) (ji (jB x) :: st) (I) (P)) : jJ E own cc nL rt R Z cs ss (pc) (ls) (ji x :: st) (I) (P) := by
  intro p e s m args below meth c H locs la hc hH hS hl h1 h2
  refine lv_i2b hc.1 hc.2.1 hd rfl ?_
  have h := k p e s m args below meth c H locs la hc hH hS hl h1 ⟨jR32 _, h2.2⟩
  have e1 : jc (ji (jB x)) = .int ((Int32.ofInt x).toInt8.toInt32) := congrArg Value.int (Int32.ofInt_toInt _)
  rw [List.map_cons, e1] at h
  exact h
theorem jJ_if_eq {x : Int} {off : Int} {tgt : Nat} (hd : decode cc pc = .ok (.ifCond .eq off, 3)) (ht : (pc : Int) + off = (tgt : Int)) (kt : x = 0 → jJ E own cc nL rt R Z cs ss (tgt) (ls) (st) (I) (P)) (kf : x ≠ 0 → jJ E own cc nL rt R Z cs ss (pc + 3) (ls) (st) (I) (P)) : jJ E own cc nL rt R Z cs ss (pc) (ls) (ji x :: st) (I) (P) := by
  intro p e s m args below meth c H locs la hc hH hS hl h1 h2
  refine lv_if_eq hc.1 hc.2.1 hd ht (fun h => ?_) (fun h => ?_)
  · exact kt ((j32_eq0 h2.1).mp h) p e s m args below meth c H locs la hc hH hS hl h1 h2.2
  · exact kf (fun q => h ((j32_eq0 h2.1).mpr q)) p e s m args below meth c H locs la hc hH hS hl h1 h2.2
theorem jJ_if_ne {x : Int} {off : Int} {tgt : Nat} (hd : decode cc pc = .ok (.ifCond .ne off, 3)) (ht : (pc : Int) + off = (tgt : Int)) (kt : x ≠ 0 → jJ E own cc nL rt R Z cs ss (tgt) (ls) (st) (I) (P)) (kf : x = 0 → jJ E own cc nL rt R Z cs ss (pc + 3) (ls) (st) (I) (P)) : jJ E own cc nL rt R Z cs ss (pc) (ls) (ji x :: st) (I) (P) := by
  intro p e s m args below meth c H locs la hc hH hS hl h1 h2
  refine lv_if_ne hc.1 hc.2.1 hd ht (fun h => ?_) (fun h => ?_)
  · exact kt (fun q => absurd ((j32_eq0 h2.1).mpr q) (by simpa using h)) p e s m args below meth c H locs la hc hH hS hl h1 h2.2
  · exact kf ((j32_eq0 h2.1).mp (by simpa using h)) p e s m args below meth c H locs la hc hH hS hl h1 h2.2
theorem jJ_if_lt {x : Int} {off : Int} {tgt : Nat} (hd : decode cc pc = .ok (.ifCond .lt off, 3)) (ht : (pc : Int) + off = (tgt : Int)) (kt : x < 0 → jJ E own cc nL rt R Z cs ss (tgt) (ls) (st) (I) (P)) (kf : 0 ≤ x → jJ E own cc nL rt R Z cs ss (pc + 3) (ls) (st) (I) (P)) : jJ E own cc nL rt R Z cs ss (pc) (ls) (ji x :: st) (I) (P) := by
  intro p e s m args below meth c H locs la hc hH hS hl h1 h2
  refine lv_if_lt hc.1 hc.2.1 hd ht (fun h => ?_) (fun h => ?_)
  · exact kt ((j32_lt0 h2.1).mp h) p e s m args below meth c H locs la hc hH hS hl h1 h2.2
  · exact kf (by have q : ¬ (x < 0) := fun z => h ((j32_lt0 h2.1).mpr z); omega) p e s m args below meth c H locs la hc hH hS hl h1 h2.2
theorem jJ_if_ge {x : Int} {off : Int} {tgt : Nat} (hd : decode cc pc = .ok (.ifCond .ge off, 3)) (ht : (pc : Int) + off = (tgt : Int)) (kt : 0 ≤ x → jJ E own cc nL rt R Z cs ss (tgt) (ls) (st) (I) (P)) (kf : x < 0 → jJ E own cc nL rt R Z cs ss (pc + 3) (ls) (st) (I) (P)) : jJ E own cc nL rt R Z cs ss (pc) (ls) (ji x :: st) (I) (P) := by
  intro p e s m args below meth c H locs la hc hH hS hl h1 h2
  refine lv_if_ge hc.1 hc.2.1 hd ht (fun h => ?_) (fun h => ?_)
  · exact kt ((j32_0le h2.1).mp h) p e s m args below meth c H locs la hc hH hS hl h1 h2.2
  · exact kf (by have q : ¬ (0 ≤ x) := fun z => h ((j32_0le h2.1).mpr z); omega) p e s m args below meth c H locs la hc hH hS hl h1 h2.2
theorem jJ_if_gt {x : Int} {off : Int} {tgt : Nat} (hd : decode cc pc = .ok (.ifCond .gt off, 3)) (ht : (pc : Int) + off = (tgt : Int)) (kt : 0 < x → jJ E own cc nL rt R Z cs ss (tgt) (ls) (st) (I) (P)) (kf : x ≤ 0 → jJ E own cc nL rt R Z cs ss (pc + 3) (ls) (st) (I) (P)) : jJ E own cc nL rt R Z cs ss (pc) (ls) (ji x :: st) (I) (P) := by
  intro p e s m args below meth c H locs la hc hH hS hl h1 h2
  refine lv_if_gt hc.1 hc.2.1 hd ht (fun h => ?_) (fun h => ?_)
  · exact kt ((j32_0lt h2.1).mp h) p e s m args below meth c H locs la hc hH hS hl h1 h2.2
  · exact kf (by have q : ¬ (0 < x) := fun z => h ((j32_0lt h2.1).mpr z); omega) p e s m args below meth c H locs la hc hH hS hl h1 h2.2
theorem jJ_if_le {x : Int} {off : Int} {tgt : Nat} (hd : decode cc pc = .ok (.ifCond .le off, 3)) (ht : (pc : Int) + off = (tgt : Int)) (kt : x ≤ 0 → jJ E own cc nL rt R Z cs ss (tgt) (ls) (st) (I) (P)) (kf : 0 < x → jJ E own cc nL rt R Z cs ss (pc + 3) (ls) (st) (I) (P)) : jJ E own cc nL rt R Z cs ss (pc) (ls) (ji x :: st) (I) (P) := by
  intro p e s m args below meth c H locs la hc hH hS hl h1 h2
  refine lv_if_le hc.1 hc.2.1 hd ht (fun h => ?_) (fun h => ?_)
  · exact kt ((j32_le0 h2.1).mp h) p e s m args below meth c H locs la hc hH hS hl h1 h2.2
  · exact kf (by have q : ¬ (x ≤ 0) := fun z => h ((j32_le0 h2.1).mpr z); omega) p e s m args below meth c H locs la hc hH hS hl h1 h2.2
theorem jJ_icmp_eq {x y : Int} {off : Int} {tgt : Nat} (hd : decode cc pc = .ok (.if_icmp .eq off, 3)) (ht : (pc : Int) + off = (tgt : Int)) (kt : x = y → jJ E own cc nL rt R Z cs ss (tgt) (ls) (st) (I) (P)) (kf : x ≠ y → jJ E own cc nL rt R Z cs ss (pc + 3) (ls) (st) (I) (P)) : jJ E own cc nL rt R Z cs ss (pc) (ls) (ji y :: ji x :: st) (I) (P) := by
  intro p e s m args below meth c H locs la hc hH hS hl h1 h2
  refine lv_icmp_eq hc.1 hc.2.1 hd ht (fun h => ?_) (fun h => ?_)
  · exact kt ((j32_eq h2.2.1 h2.1).mp h) p e s m args below meth c H locs la hc hH hS hl h1 h2.2.2
  · exact kf (fun q => h ((j32_eq h2.2.1 h2.1).mpr q)) p e s m args below meth c H locs la hc hH hS hl h1 h2.2.2
theorem jJ_icmp_ne {x y : Int} {off : Int} {tgt : Nat} (hd : decode cc pc = .ok (.if_icmp .ne off, 3)) (ht : (pc : Int) + off = (tgt : Int)) (kt : x ≠ y → jJ E own cc nL rt R Z cs ss (tgt) (ls) (st) (I) (P)) (kf : x = y → jJ E own cc nL rt R Z cs ss (pc + 3) (ls) (st) (I) (P)) : jJ E own cc nL rt R Z cs ss (pc) (ls) (ji y :: ji x :: st) (I) (P) := by
  intro p e s m args below meth c H locs la hc hH hS hl h1 h2
  refine lv_icmp_ne hc.1 hc.2.1 hd ht (fun h => ?_) (fun h => ?_)
  · exact kt (fun q => absurd ((j32_eq h2.2.1 h2.1).mpr q) (by simpa using h)) p e s m args below meth c H locs la hc hH hS hl h1 h2.2.2
  · exact kf ((j32_eq h2.2.1 h2.1).mp (by simpa using h)) p e s m args below meth c H locs la hc hH hS hl h1 h2.2.2
theorem jJ_icmp_lt {x y : Int} {off : Int} {tgt : Nat} (hd : decode cc pc = .ok (.if_icmp .lt off, 3)) (ht : (pc : Int) + off = (tgt : Int)) (kt : x < y → jJ E own cc nL rt R Z cs ss (tgt) (ls) (st) (I) (P)) (kf : y ≤ x → jJ E own cc nL rt R Z cs ss (pc + 3) (ls) (st) (I) (P)) : jJ E own cc nL rt R Z cs ss (pc) (ls) (ji y :: ji x :: st) (I) (P) := by
  intro p e s m args below meth c H locs la hc hH hS hl h1 h2
  refine lv_icmp_lt hc.1 hc.2.1 hd ht (fun h => ?_) (fun h => ?_)
  · exact kt ((j32_lt h2.2.1 h2.1).mp h) p e s m args below meth c H locs la hc hH hS hl h1 h2.2.2
  · exact kf (by have q : ¬ (x < y) := fun z => h ((j32_lt h2.2.1 h2.1).mpr z); omega) p e s m args below meth c H locs la hc hH hS hl h1 h2.2.2
theorem jJ_icmp_ge {x y : Int} {off : Int} {tgt : Nat} (hd : decode cc pc = .ok (.if_icmp .ge off, 3)) (ht : (pc : Int) + off = (tgt : Int)) (kt : y ≤ x → jJ E own cc nL rt R Z cs ss (tgt) (ls) (st) (I) (P)) (kf : x < y → jJ E own cc nL rt R Z cs ss (pc + 3) (ls) (st) (I) (P)) : jJ E own cc nL rt R Z cs ss (pc) (ls) (ji y :: ji x :: st) (I) (P) := by
  intro p e s m args below meth c H locs la hc hH hS hl h1 h2
  refine lv_icmp_ge hc.1 hc.2.1 hd ht (fun h => ?_) (fun h => ?_)
  · exact kt ((j32_le h2.1 h2.2.1).mp h) p e s m args below meth c H locs la hc hH hS hl h1 h2.2.2
  · exact kf (by have q : ¬ (y ≤ x) := fun z => h ((j32_le h2.1 h2.2.1).mpr z); omega) p e s m args below meth c H locs la hc hH hS hl h1 h2.2.2
theorem jJ_icmp_gt {x y : Int} {off : Int} {tgt : Nat} (hd : decode cc pc = .ok (.if_icmp .gt off, 3)) (ht : (pc : Int) + off = (tgt : Int)) (kt : y < x → jJ E own cc nL rt R Z cs ss (tgt) (ls) (st) (I) (P)) (kf : x ≤ y → jJ E own cc nL rt R Z cs ss (pc + 3) (ls) (st) (I) (P)) : jJ E own cc nL rt R Z cs ss (pc) (ls) (ji y :: ji x :: st) (I) (P) := by
  intro p e s m args below meth c H locs la hc hH hS hl h1 h2
  refine lv_icmp_gt hc.1 hc.2.1 hd ht (fun h => ?_) (fun h => ?_)
  · exact kt ((j32_lt h2.1 h2.2.1).mp h) p e s m args below meth c H locs la hc hH hS hl h1 h2.2.2
  · exact kf (by have q : ¬ (y < x) := fun z => h ((j32_lt h2.1 h2.2.1).mpr z); omega) p e s m args below meth c H locs la hc hH hS hl h1 h2.2.2
theorem jJ_icmp_le {x y : Int} {off : Int} {tgt : Nat} (hd : decode cc pc = .ok (.if_icmp .le off, 3)) (ht : (pc : Int) + off = (tgt : Int)) (kt : x ≤ y → jJ E own cc nL rt R Z cs ss (tgt) (ls) (st) (I) (P)) (kf : y < x → jJ E own cc nL rt R Z cs ss (pc + 3) (ls) (st) (I) (P)) : jJ E own cc nL rt R Z cs ss (pc) (ls) (ji y :: ji x :: st) (I) (P) := by
  intro p e s m args below meth c H locs la hc hH hS hl h1 h2
  refine lv_icmp_le hc.1 hc.2.1 hd ht (fun h => ?_) (fun h => ?_)
  · exact kt ((j32_le h2.2.1 h2.1).mp h) p e s m args below meth c H locs la hc hH hS hl h1 h2.2.2
  · exact kf (by have q : ¬ (x ≤ y) := fun z => h ((j32_le h2.2.1 h2.1).mpr z); omega) p e s m args below meth c H locs la hc hH hS hl h1 h2.2.2
theorem jJ_goto {off : Int} {tgt : Nat} (hd : decode cc pc = .ok (.goto off, 3)) (ht : (pc : Int) + off = (tgt : Int)) (k : jJ E own cc nL rt R Z cs ss (tgt) (ls) (st) (I) (P)) : jJ E own cc nL rt R Z cs ss (pc) (ls) (st) (I) (P) := by
  intro p e s m args below meth c H locs la hc hH hS hl h1 h2
  exact lv_goto hc.1 hc.2.1 hd ht (k p e s m args below meth c H locs la hc hH hS hl h1 h2)
theorem jJ_tableIn {dflt lo hi : Int} {offs : Array Int} {len : Nat} {x off : Int} {tgt : Nat} (hd : decode cc pc = .ok (.tableswitch dflt lo hi offs, len)) (hx : lo ≤ x ∧ x ≤ hi) (ho : offs[(x - lo).toNat]? = some off) (ht : (pc : Int) + off = (tgt : Int)) (k : jJ E own cc nL rt R Z cs ss (tgt) (ls) (st) (I) (P)) : jJ E own cc nL rt R Z cs ss (pc) (ls) (ji x :: st) (I) (P) := by
  intro p e s m args below meth c H locs la hc hH hS hl h1 h2
  have e1 := j32 h2.1
  exact lv_tableIn hc.1 hc.2.1 hd (by rw [e1]; omega) (by rw [e1]; omega) (by rw [e1]; exact ho) ht (k p e s m args below meth c H locs la hc hH hS hl h1 h2.2)
theorem jJ_tableOut {dflt lo hi : Int} {offs : Array Int} {len : Nat} {x : Int} {tgt : Nat} (hd : decode cc pc = .ok (.tableswitch dflt lo hi offs, len)) (hx : x < lo ∨ hi < x) (ht : (pc : Int) + dflt = (tgt : Int)) (k : jJ E own cc nL rt R Z cs ss (tgt) (ls) (st) (I) (P)) : jJ E own cc nL rt R Z cs ss (pc) (ls) (ji x :: st) (I) (P) := by
  intro p e s m args below meth c H locs la hc hH hS hl h1 h2
  have e1 := j32 h2.1
  exact lv_tableOut hc.1 hc.2.1 hd (by rw [e1]; exact hx) ht (k p e s m args below meth c H locs la hc hH hS hl h1 h2.2)
theorem jJ_lookup {dflt : Int} {ps : Array (Int × Int)} {len : Nat} {x off : Int} {tgt : Nat} (hd : decode cc pc = .ok (.lookupswitch dflt ps, len)) (hp : (ps.toList.zip (ps.toList.drop 1)).all (fun (a, next) => a.1 < next.1) = true) (ho : Op.lookupswitch.offset ps.toList dflt x = off) (ht : (pc : Int) + off = (tgt : Int)) (k : jJ E own cc nL rt R Z cs ss (tgt) (ls) (st) (I) (P)) : jJ E own cc nL rt R Z cs ss (pc) (ls) (ji x :: st) (I) (P) := by
  intro p e s m args below meth c H locs la hc hH hS hl h1 h2
  have e1 := j32 h2.1
  exact lv_lookup hc.1 hc.2.1 hd hp (by rw [e1]; exact ho) ht (k p e s m args below meth c H locs la hc hH hS hl h1 h2.2)
theorem jJ_rs (k : jRs st → jJ E own cc nL rt R Z cs ss (pc) (ls) (st) (I) (P)) : jJ E own cc nL rt R Z cs ss (pc) (ls) (st) (I) (P) := by
  intro p e s m args below meth c H locs la hc hH hS hl h1 h2
  exact k h2 p e s m args below meth c H locs la hc hH hS hl h1 h2
theorem jJ_rl (k : jRl ls → jJ E own cc nL rt R Z cs ss (pc) (ls) (st) (I) (P)) : jJ E own cc nL rt R Z cs ss (pc) (ls) (st) (I) (P) := by
  intro p e s m args below meth c H locs la hc hH hS hl h1 h2
  exact k h1 p e s m args below meth c H locs la hc hH hS hl h1 h2
theorem jJ_rI (k : jRI I → jJ E own cc nL rt R Z cs ss (pc) (ls) (st) (I) (P)) : jJ E own cc nL rt R Z cs ss (pc) (ls) (st) (I) (P) := by
  intro p e s m args below meth c H locs la hc hH hS hl h1 h2
  exact k hH.2.2 p e s m args below meth c H locs la hc hH hS hl h1 h2
end JFR
