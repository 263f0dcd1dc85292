section JCtor
variable {E : jE} {own : String} {cc : ByteArray} {nL : Nat} {rt : Option FieldType} {R : Room} {Z : Code → List Frame → Array Value → State → State → Prop} {cs ss pc : Nat} {ls : List (Option jV)} {st : List jV} {I : jI} {P : jP}
theorem jJ_new {idx ci : Nat} {q : vw_C} (hd : decode cc pc = .ok (.new idx, 3)) (hq : vwCl[ci]? = some q) (hdf : ∀ j, j < q.2.2 → defaultValue (jTy ci j) = if jIsR (jTy ci j) = true then .null else .int 0) (hcl : Cond.classLink own idx q.1 ∈ jT) (hin : Cond.instantiable q.1 q.2.2 ∈ jT) (hini : Cond.initialized q.1 ∈ jT) (hR : cs + 1 ≤ R.cells ∧ ss + q.2.2 ≤ R.slots) (kk : ∀ b, b ∉ eL E → jJ (eAdd E b ci 0) own cc nL rt R Z (cs + 1) (ss + q.2.2) (pc + 3) ls (jp b :: st) (zI I b) (zP P b)) : jJ E own cc nL rt R Z cs ss pc ls st I P := by
  intro p e s m args below meth c H locs la hc hH hS hl h1 h2
  obtain ⟨hP, hD, hI⟩ := hH
  obtain ⟨hn, h8⟩ := jcl_nf hq
  have hA : ∀ q, s.heap.size ≤ q → jA E q := fun q hq => Nat.le_trans hc.2.2.2.2.2.2.2.2.2 hq
  refine va_new (D := eD E) (C := q.1) (T := q.2.1) (N := q.2.2) (fs := jFs ci 0 (zI I 0) (zP P 0)) hc.1 hc.2.1 hc.2.2.2.2.2.1 (jcl_in hq) (jTy ci) (jcl_ty hq) hc.2.2.2.2.1 (hc.2.2.2.2.2.1 _ hcl) (hc.2.2.2.2.2.1 _ hin) (hc.2.2.2.2.2.1 _ hini) hc.2.2.2.2.2.2.2.1 hP hD hS hA hq (fun j hj => ?_) hR.1 hR.2 hd ?_
  · rw [hdf j hj]
    unfold vp_V jFs
    rw [List.getD_eq_getElem?_getD, List.getElem?_map, List.getElem?_range (by omega)]
    show _ = jFv ci 0 (zI I 0) (zP P 0) j
    unfold jFv
    rw [zI_s, zP_s]
    rfl
  · intro b H1 hP1 hD1 hS1
    have e0 : jFs ci b (zI I b) (zP P b) = jFs ci 0 (zI I 0) (zP P 0) := by
      unfold jFs jFv
      simp only [zI_s, zP_s]
    obtain ⟨hb, hH1⟩ := jHp_add (k := ci) (n := 0) hP1 hD1 (by rw [jCell_obj (show eK (eAdd E b ci 0) b = ci from va_up_self _ _ _) h8, e0]) hI
    exact kk b hb p e s m args below meth c H1 locs la (jCtx_add hc) hH1 hS1 hl h1 ⟨trivial, h2⟩
/-- the method that was called at s is a constructor -/
def jNi (s : State) : Prop := ∀ (m : MethodId) (args : Array Value) (below : List Frame) (meth : Method), s.frames = .invoking m args :: below → s.vm.method? m = some meth → meth.name = "<init>"
/-- the same system, perhaps another pool -/
def eSame (E E' : jE) : Prop := ∃ (L : List Nat) (K N : Nat → Nat), E' = (eX E, eZ E, eD E, eCy E, L, K, N, eSk E, eSv E)
theorem eSame.rf : eSame E E := ⟨eL E, eK E, eN E, rfl⟩
theorem eSame.tr {E' E'' : jE} (h1 : eSame E E') (h2 : eSame E' E'') : eSame E E'' := by
  obtain ⟨L, K, N, rfl⟩ := h1
  obtain ⟨L', K', N', rfl⟩ := h2
  exact ⟨L', K', N', rfl⟩
theorem eSame.add {b k n : Nat} : eSame E (eAdd E b k n) := ⟨_, _, _, rfl⟩
def jQn (E : jE) (Q : jE → jI → jP → Prop) : Array Value → State → Outcome → State → Prop := fun _ st oc t => (∃ (E' : jE) (I : jI) (P : jP), oc = .returned none ∧ eSame E E' ∧ Q E' I P ∧ jWld E' I P t) ∧ va_F (jA E) st t
def jZn (E : jE) (Q : jE → jI → jP → Prop) (A : State → Prop) (mc ms : Nat) : Code → List Frame → Array Value → State → State → Prop := fun _ below args s t => (jNi s ∧ A s) → MQ below (jQn E Q) args s mc ms (jA E) t
def jRn (d mc ms : Nat) : Room := { frames := d, cells := mc, slots := ms, locals := 60 * d }
/-- the contract of a constructor, where A holds too -/
def jN (E : jE) (A : State → Prop) (y : MethodName) (cc : ByteArray) (n d mc ms : Nat) (as : List jV) (I : jI) (P : jP) (Q : jE → jI → jP → Prop) : Prop :=
  jRs as → Met (eX E) y (jws y cc n none) (jRn d mc ms) (va_Pc (as.map jc) (fun U => jWld E I P U ∧ A U)) (jQn E Q) mc ms (jA E)
theorem W_go {p : Program} {l : Launch} {e : Env} {R : Room} {s : State} {m : MethodId} {args : Array Value} {below : List Frame} {meth : Method} {c : Code} {H : Heap} {locs : List Loc} {cells slots : Nat} {Q : State → Prop} {g : JFrame} {N : Prop} (hN : N) (k : W p l e R s m args below meth c H locs cells slots (fun t => N → Q t) g) : W p l e R s m args below meth c H locs cells slots Q g := by
  intro T hT X
  obtain ⟨t, a, b⟩ := k T hT X
  exact ⟨t, a, b hN⟩
theorem jJ_newq {E0 : jE} {A : State → Prop} {Q : jE → jI → jP → Prop} {mc ms idx k n i : Nat} {C : String} (hd : decode cc pc = .ok (.anewarray idx, 3)) (hk : 11 ≤ k ∧ k < 14) (hty : ∀ E : jE, (jTys E)[i]? = some (eCy E k, .object C)) (hcl : Cond.classLink own idx C ∈ jT) (hao : ∀ s, A s → va_AO C s) (hn : n ≤ 100000) (hR : cs + 1 ≤ R.cells ∧ ss + n ≤ R.slots) (kk : ∀ b, b ∉ eL E → jJ (eAdd E b k n) own cc nL rt R (jZn E0 Q A mc ms) (cs + 1) (ss + n) (pc + 3) ls (jp b :: st) (zI I b) (zP P b)) : jJ E own cc nL rt R (jZn E0 Q A mc ms) cs ss pc ls (ji (n : Int) :: st) I P := by
  intro p e s m args below meth c H locs la hc hH hS hl h1 h2
  obtain ⟨hP, hD, hI⟩ := hH
  refine W_if (fun hNA => ?_)
  have hAq : ∀ q, s.heap.size ≤ q → jA E q := fun q hq => Nat.le_trans hc.2.2.2.2.2.2.2.2.2 hq
  have hr : jR (n : Int) := h2.1
  have h0 : ¬ Int32.ofInt (n : Int) < 0 := by rw [j32_lt0 hr]; omega
  have hN : (Int32.ofInt (n : Int)).toNatClampNeg = n := by rw [j32_clamp hr (by omega)]; exact Int.toNat_natCast n
  refine va_newq hc.1 hc.2.1 hc.2.2.2.2.1 (hc.2.2.2.2.2.1 _ hcl) (hao s hNA.2) hc.2.2.2.2.2.2.2.1 hP hD hS hAq h0 hN (by omega) hR.1 hR.2 hd ?_
  intro b cA H1 hK1 hP1 hD1 hS1
  rw [jCy_u hK1 (hty E)] at hP1 hD1
  obtain ⟨hb, hH1⟩ := jHp_add (k := k) (n := n) hP1 hD1 (by
    unfold jCell
    rw [show eK (eAdd E b k n) b = k from va_up_self _ _ _, show eN (eAdd E b k n) b = n from va_up_self _ _ _, if_neg (by omega), if_neg (by omega), if_pos hk.2]
    simp only [zP_s]
    rfl) hI
  exact W_go hNA (kk b hb p e s m args below meth c H1 locs la (jCtx_add hc) hH1 hS1 hl h1 ⟨trivial, h2.2⟩)
theorem jN_intro {A : State → Prop} {y : MethodName} {n d mc ms : Nat} {as : List jV} {Q : jE → jI → jP → Prop} (hy : plainName y.cls = true) (hy1 : y.name = "<init>") (hcat : ∀ v ∈ as, (jc v).category = 1) (hn : as.length ≤ n)
    (h : jJ E y.cls cc n none (jRn d mc ms) (jZn E Q A mc ms) 0 0 0 (jEnt as n) [] I P) : jN E A y cc n d mc ms as I P Q := by
  intro hr
  refine Met.ofW (cc := cc) (maxL := n) (ret := none) hy rfl ?_
  intro p e s m args below meth c s₁ B hml hv
  obtain ⟨rfl, ⟨hz, hH, hK, hX⟩, hAs⟩ := hv
  have hcat2 : ∀ v ∈ as.map jc, v.category = 1 := by
    intro v hv
    obtain ⟨w, hw, rfl⟩ := List.mem_map.mp hv
    exact hcat w hw
  have hll := lg_sl_len (as.map jc) hcat2
  rw [lg_entry_eq]
  have hl := lv_entry (as.map jc) (n := n) (by rw [hll, List.length_map]; exact hn)
  have hNi : jNi s := by
    intro m' args' below' meth' hf hm
    have hf0 := B.frames
    rw [hf] at hf0
    injection hf0 with h1 h2
    injection h1 with h3 h4
    subst h3
    exact (name_of_methodNamed B.named hm).1.trans hy1
  refine W_go (N := jNi s ∧ A s) ⟨hNi, hAs⟩ ?_
  refine h p e s m _ below meth c s.heap [] _ ⟨B.exec, B.bytes, B.returns, hml, findClass_of_methodNamed B.named, fun w hw => atoms_spec (ws := jws y cc n none) B.pre w (List.mem_cons_of_mem _ hw), B.notSynchronized, hK, hX, hz⟩ hH va_S.rf ⟨⟨hl.1, hl.2.1, ?_⟩, ?_, ?_⟩ ?_ trivial
  · rintro ⟨j, w⟩ hq
    obtain ⟨v, h1, rfl⟩ := jLl_mem.mp hq
    have h2 := lv_args_mem1 (as.map jc) 0 hcat2 j (jc v) (by rw [List.getElem?_map, jEnt_at h1]; rfl)
    rw [Nat.zero_add] at h2
    exact hl.2.2 _ h2
  · simp [jEnt]; omega
  · intro i v h1
    exact hcat v (List.mem_of_getElem? (jEnt_at h1))
  · intro i v h1
    exact jRs_get hr (jEnt_at h1)
end JCtor
