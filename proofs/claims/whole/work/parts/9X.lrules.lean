section JLR
variable {E : jE} {own : String} {cc : ByteArray} {nL : Nat} {rt : Option FieldType} {R : Room} {Z : Code → List Frame → Array Value → State → State → Prop} {cs ss pc : Nat} {ls : List (Option jV)} {st : List jV} {I : jI} {P : jP}
theorem j64 {n : Int} (h : jR n) : (Int64.ofInt n).toInt = n := Int64.toInt_ofInt_of_le (by have := h.1; omega) (by have := h.2; omega)
theorem j32_64 {n : Int} (h : jR n) : (Int32.ofInt n).toInt64 = Int64.ofInt n := by
  rw [← Int64.toInt_inj, Int32.toInt_toInt64, j32 h, j64 h]
theorem jJ_i2l {x : Int} (hd : decode cc pc = .ok (.i2l, 1)) (kk : jJ E own cc nL rt R Z cs ss (pc + 1) ls (jlo x :: st) I P) : jJ E own cc nL rt R Z cs ss pc ls (ji x :: st) I P := by
  intro p e s m args below meth c H locs la hc hH hS hl h1 h2
  exact lv_i2l hc.1 hc.2.1 hd (j32_64 h2.1) (kk p e s m args below meth c H locs la hc hH hS hl h1 ⟨h2.1, h2.2⟩)
theorem jJ_lconst {n : Fin 2} {v : Int} (hd : decode cc pc = .ok (.lconst n, 1)) (hv : Int64.ofNat (n : Nat) = Int64.ofInt v) (hr : jR v) (kk : jJ E own cc nL rt R Z cs ss (pc + 1) ls (jlo v :: st) I P) : jJ E own cc nL rt R Z cs ss pc ls st I P := by
  intro p e s m args below meth c H locs la hc hH hS hl h1 h2
  exact lv_lconst hc.1 hc.2.1 hd hv (kk p e s m args below meth c H locs la hc hH hS hl h1 ⟨hr, h2⟩)
theorem jJ_lald {a n : Nat} {i : Int} (hd : decode cc pc = .ok (.laload, 1)) (ha : jAr E 14 a n) (hi : 0 ≤ i ∧ i < n) (kk : jJ E own cc nL rt R Z cs ss (pc + 1) ls (jlo (I a i.toNat) :: st) I P) : jJ E own cc nL rt R Z cs ss pc ls (ji i :: jp a :: st) I P := by
  intro p e s m args below meth c H locs la hc hH hS hl h1 h2
  obtain ⟨i0, hi0⟩ := jPool_get (I := I) (P := P) ha.1
  rw [jCell_arl ha] at hi0
  have hw := kk p e s m args below meth c H locs la hc hH hS hl h1 ⟨hH.2.2 a i.toNat, h2.2.2⟩
  refine va_lald hc.1 hc.2.1 hc.2.2.2.2.2.2.2.1 hH.1 i0 6 hi0 rfl (jin h2.1 hi.1 hi.2) hd ?_
  rw [j32_clamp h2.1 hi.1]
  exact hw
theorem jJ_last {a n : Nat} {i v : Int} (hd : decode cc pc = .ok (.lastore, 1)) (ha : jAr E 14 a n) (hi : 0 ≤ i ∧ i < n) (kk : jJ E own cc nL rt R Z cs ss (pc + 1) ls st (jput I a i.toNat v) P) : jJ E own cc nL rt R Z cs ss pc ls (jlo v :: ji i :: jp a :: st) I P := by
  intro p e s m args below meth c H locs la hc hH hS hl h1 h2
  obtain ⟨i0, hi0⟩ := jPool_get (I := I) (P := P) ha.1
  have hset := jPool_set (I' := jput I a i.toNat v) (P' := P) (v := .inl (eCy E 14, n, .inr (.inl (vp_updL (fun j => Int64.ofInt (I a j)) i.toNat (Int64.ofInt v))))) hH.2.1 ha.1 hi0 (by rw [jCell_arl ha, jupdl]) (fun b j hb => (jput_a I hb).symm) (fun b j hb => rfl)
  rw [jCell_arl ha] at hi0
  refine va_last hc.1 hc.2.1 hc.2.2.2.2.2.2.2.1 hH.1 hH.2.1 hS i0 6 hi0 rfl (x := Int64.ofInt v) (jin h2.2.1 hi.1 hi.2) hd (fun H1 locs1 hP1 hD1 hS1 => ?_)
  rw [j32_clamp h2.2.1 hi.1] at hP1 hD1
  exact kk p e s m args below meth c H1 locs1 la hc ⟨by rw [← hset]; exact hP1, by rw [← hset]; exact hD1, jRI_put hH.2.2 h2.1⟩ hS1 hl h1 h2.2.2.2
/-- two longs are the same: the comparison answers 0 -/
theorem jJ_lcmp {x y : Int} (hd : decode cc pc = .ok (.lcmp, 1)) (he : x = y) (kk : jJ E own cc nL rt R Z cs ss (pc + 1) ls (ji 0 :: st) I P) : jJ E own cc nL rt R Z cs ss pc ls (jlo y :: jlo x :: st) I P := by
  intro p e s m args below meth c H locs la hc hH hS hl h1 h2
  subst he
  refine W.lcmp hc.1 hc.2.1 hd ?_
  have e0 : lg_cmp (Int64.ofInt x) (Int64.ofInt x) = Int32.ofInt 0 := by
    unfold lg_cmp
    rw [if_neg (by simp), if_pos rfl]
    decide
  rw [e0]
  exact kk p e s m args below meth c H locs la hc hH hS hl h1 ⟨jR0, h2.2.2⟩
theorem jJ_widen {k n : Nat} (h1 : cs ≤ k) (h2 : ss ≤ n) (kk : jJ E own cc nL rt R Z k n pc ls st I P) : jJ E own cc nL rt R Z cs ss pc ls st I P := by
  intro p e s m args below meth c H locs la hc hH hS hl g1 g2
  exact W.widen h1 h2 (kk p e s m args below meth c H locs la hc hH hS hl g1 g2)
/-! methods with handlers -/
def jwsw (y : MethodName) (cc : ByteArray) (n : Nat) (hh : List (Nat × Nat × Nat × Nat)) : List Cond := Cond.codeWith y cc n (some .int) hh :: jT
def jZw (E : jE) (Q : Option jV → jI → jP → Prop) (A : State → Prop) (hh : List (Nat × Nat × Nat × Nat)) (mc : Nat) : Code → List Frame → Array Value → State → State → Prop := fun c below args s t => (c.exceptionTable.toList = tableOf hh ∧ A s) → MQ below (jQ E Q) args s mc (6 * mc) (jA E) t
/-- the contract of a method that catches -/
def jCw (E : jE) (A : State → Prop) (y : MethodName) (cc : ByteArray) (n : Nat) (hh : List (Nat × Nat × Nat × Nat)) (d mc : Nat) (as : List jV) (I : jI) (P : jP) (Q : Option jV → jI → jP → Prop) : Prop :=
  jRs as → Met (eX E) y (jwsw y cc n hh) (jRmx d mc) (va_Pc (as.map jc) (fun U => jWld E I P U ∧ A U)) (jQ E Q) mc (6 * mc) (jA E)
theorem jCw_intro {A : State → Prop} {y : MethodName} {hh : List (Nat × Nat × Nat × Nat)} {n d mc : Nat} {as : List jV} {Q : Option jV → jI → jP → Prop} (hy : plainName y.cls = true) (hcat : ∀ v ∈ as, (jc v).category = 1) (hn : as.length ≤ n)
    (h : jJ E y.cls cc n (some .int) (jRmx d mc) (jZw E Q A hh mc) 0 0 0 (jEnt as n) [] I P) : jCw E A y cc n hh d mc as I P Q := by
  intro hr
  refine va_MetW (cc := cc) (maxL := n) (ret := some .int) (hh := hh) hy rfl ?_
  intro p e s m args below meth c s₁ B hml hv
  obtain ⟨rfl, ⟨hz, hH, hK, hX⟩, hAs⟩ := hv
  have hcat2 : ∀ v ∈ as.map jc, v.category = 1 := by
    intro v hv
    obtain ⟨w, hw, rfl⟩ := List.mem_map.mp hv
    exact hcat w hw
  have hll := lg_sl_len (as.map jc) hcat2
  rw [lg_entry_eq]
  have hl := lv_entry (as.map jc) (n := n) (by rw [hll, List.length_map]; exact hn)
  have htab : c.exceptionTable.toList = tableOf hh := vx_table (x := y) B (atoms_spec (ws := jwsw y cc n hh) B.pre _ List.mem_cons_self)
  refine W_go (N := c.exceptionTable.toList = tableOf hh ∧ A s) ⟨htab, hAs⟩ ?_
  refine h p e s m _ below meth c s.heap [] _ ⟨B.exec, B.bytes, B.returns, hml, findClass_of_methodNamed B.named, fun w hw => atoms_spec (ws := jwsw y cc n hh) B.pre w (List.mem_cons_of_mem _ hw), B.notSynchronized, hK, hX, hz⟩ hH va_S.rf ⟨⟨hl.1, hl.2.1, ?_⟩, ?_, ?_⟩ ?_ trivial
  · rintro ⟨j, w⟩ hq
    obtain ⟨v, h1, rfl⟩ := jLl_mem.mp hq
    have h2 := lv_args_mem1 (as.map jc) 0 hcat2 j (jc v) (by rw [List.getElem?_map, jEnt_at h1]; rfl)
    rw [Nat.zero_add] at h2
    exact hl.2.2 _ h2
  · simp [jEnt]; omega
  · intro i v h1
    exact hcat v (List.mem_of_getElem? (jEnt_at h1))
  · intro i v h1
    exact jRs_get hr (jEnt_at h1)
variable {Q : Option jV → jI → jP → Prop} {A : State → Prop} {hh : List (Nat × Nat × Nat × Nat)} {mc : Nat}
theorem jJ_iretw {x : Int} (hd : decode cc pc = .ok (.ireturn, 1)) (hrt : rt = some .int) (hcs : cs ≤ mc ∧ ss ≤ 6 * mc) (hq : Q (some (ji x)) I P) : jJ E own cc nL rt R (jZw E Q A hh mc) cs ss pc ls [ji x] I P := by
  intro p e s m args below meth c H locs la hc hH hS hl h1 h2
  refine W_if (fun _ => W.widen (k := mc) (n := 6 * mc) hcs.1 hcs.2 ?_)
  exact W.iret hc.1 hc.2.1 (hc.2.2.1.trans hrt) (fun t ht hW => ⟨⟨some (ji x), I, P, rfl, fun v hv => by cases hv; exact h2.1, hq, jWld_of hc.2.2.2.2.2.2.2.2.2 hH hS hc.2.2.2.2.2.2.2.1 hc.2.2.2.2.2.2.2.2.1 hW ht⟩, hS.F ht⟩) hS.2.2 hd hc.2.2.2.2.2.2.1
/-- what is thrown at pc, of the class Ec, is caught at hp -/
def jCat (own : String) (hh : List (Nat × Nat × Nat × Nat)) (A : State → Prop) (pc : Nat) (Ec : String) (hp : Nat) : Prop := ∃ (pre : List ExceptionTableEntry) (x : ExceptionTableEntry) (suf : List ExceptionTableEntry), tableOf hh = pre ++ x :: suf ∧ (∀ z ∈ pre, covers z pc = false ∨ (z.catchType ≠ 0 ∧ ∃ nm : String, Cond.classLink own z.catchType nm ∈ jT ∧ ∀ s, A s → va_Nc Ec nm s)) ∧ covers x pc = true ∧ x.catchType ≠ 0 ∧ (∃ name : String, Cond.classLink own x.catchType name ∈ jT ∧ (Cond.castable Ec name ∈ lw_tbl ∧ ((Cond.castable Ec name).onTables && (Cond.castable Ec name).keepsFace) = true)) ∧ x.handlerPc = hp
theorem jJ_callVc {idx n2 d b mk : Nat} {C : String} {y : MethodName} {c2 : ByteArray} {rt2 : Option FieldType} {as : List jV} {Q' : Option jV → jI → jP → Prop} {X' : String → jI → jP → Prop} (hd : decode cc pc = .ok (.invokevirtual idx, 3)) (hM : jMv own idx C y c2 n2 rt2 as.length) (hrc : jRcv E C b) (hst : (st.map (fun v => (jc v).category)).sum ≤ 8) (hR : d + 1 ≤ R.frames ∧ 8 + (n2 + 11) + 60 * d ≤ R.locals ∧ cs + mk ≤ R.cells ∧ ss + 6 * mk ≤ R.slots)
    (hC : jCx E y c2 n2 rt2 d mk (jp b :: as) I P Q' X') (kk : ∀ r I' P', Q' r I' P' → jJ E own cc nL rt R (jZw E Q A hh mc) (cs + mk) (ss + 6 * mk) (pc + 3) ls (r.toList ++ st) I' P')
    (hx : ∀ Ec I' P', X' Ec I' P' → ∃ hp, jCat own hh A pc Ec hp ∧ ∀ q, jJ E own cc nL rt R (jZw E Q A hh mc) (cs + mk) (ss + 6 * mk) hp ls [jp q] I' P') : jJ E own cc nL rt R (jZw E Q A hh mc) cs ss pc ls (as.reverse ++ jp b :: st) I P := by
  intro p e s m args below meth c H locs la hc hH hS hl h1 h2
  refine W_if (fun hNA => ?_)
  refine jJ_callVx0 hd hM hrc hst hR hC hc hH hS hl h2 ?_ ?_
  · intro r I' P' H1 locs1 hq hrv hH' hS'
    exact W_go hNA (kk r I' P' hq p e s m args below meth c H1 locs1 la hc hH' hS' hl h1 (jRs_app.mpr ⟨by
      cases r with
      | none => trivial
      | some v => exact ⟨hrv v rfl, trivial⟩, (jRs_app.mp h2).2.2⟩))
  · intro Ec I' P' H1 locs1 q ce hx' hH' hS' hce hcv hcl
    obtain ⟨hp, ⟨pre, x, suf, e1, e2, e3, e4, ⟨nm, e5, e6⟩, rfl⟩, k⟩ := hx Ec I' P' hx'
    refine vx_catch hc.2.2.2.2.1 pre x suf (hNA.1.trans e1) (fun z hz => ?_) e3 e4 (hc.2.2.2.2.2.1 _ e5) (va_Nw.use (by have := e6.2; simp only [Bool.and_eq_true] at this; exact this.1) (hc.2.2.2.2.2.2.2.2.1.2.2.2.2.2.2 _ e6.1 e6.2)) hce hcv hcl (W_go hNA (k q p e s m args below meth c H1 locs1 la hc hH' hS' hl h1 ⟨trivial, trivial⟩))
    rcases e2 z hz with g | ⟨g1, nm', g2, g3⟩
    · exact Or.inl g
    · exact Or.inr ⟨g1, nm', hc.2.2.2.2.2.1 _ g2, g3 s hNA.2⟩
/-- a method that catches is called, where A holds -/
theorem jJ_callSw {idx n2 d mk : Nat} {y : MethodName} {c2 : ByteArray} {as : List jV} {Z' : Code → List Frame → Array Value → State → State → Prop} {N : Array Value → State → Prop} (hZ : ∀ c below args s, Z c below args s = fun t => N args s → Z' c below args s t) (hN : ∀ args s, N args s → A s) (hAm : ∀ u U : State, u.vm.Alike U.vm → A u → A U) (hd : decode cc pc = .ok (.invokestatic idx, 3)) (hM : jMw own idx y c2 n2 hh as.length) (hst : (st.map (fun v => (jc v).category)).sum ≤ 8) (hR : d + 1 ≤ R.frames ∧ 8 + (n2 + 11) + 60 * d ≤ R.locals ∧ cs + mk ≤ R.cells ∧ ss + 6 * mk ≤ R.slots)
    (hC : jCw E A y c2 n2 hh d mk as I P Q) (kk : ∀ r I' P', Q r I' P' → jJ E own cc nL rt R Z (cs + mk) (ss + 6 * mk) (pc + 3) ls (r.toList ++ st) I' P') : jJ E own cc nL rt R Z cs ss pc ls (as.reverse ++ st) I P := by
  intro p e s m args below meth c H locs la hc hH hS hl h1 h2
  rw [hZ]
  refine W_if (fun hNA => ?_)
  obtain ⟨m1, m2, m3, m4, m5⟩ := hM
  obtain ⟨r1, r2⟩ := jRs_app.mp h2
  have hMet := hC (jRs_rev.mp r1)
  have hws : ∀ w ∈ jwsw y c2 n2 hh, w ∈ jT := fun w hw => by
    rcases List.mem_cons.mp hw with rfl | h
    · exact m4
    · exact h
  have hAs := hN args s hNA
  have hpre : PreS s H (va_Pc (as.map jc) (fun U => jWld E I P U ∧ A U)) (as.map jc) := ⟨fun a U g mk z => ⟨z.1, (jWld_blind (av := as.map jc) a U g mk ⟨z.1, z.2.1⟩).2, hAm U (U.calling g mk a) (Vm.Alike.refl U.vm) z.2.2⟩, fun U hU hW => ⟨rfl, jWld_of hc.2.2.2.2.2.2.2.2.2 hH hS hc.2.2.2.2.2.2.2.1 hc.2.2.2.2.2.2.2.2.1 hW hU, hAm s U hW.alike hAs⟩⟩
  have hstk : (F0 m pc la ((as.reverse ++ st).map jc)).stack = (as.map jc).reverse ++ st.map jc := by simp [List.map_reverse]
  have hroom : 2 * (F0 m pc la ((as.reverse ++ st).map jc)).monitorRoom + ((st.map jc).map fun v => v.category).sum ≤ 8 := by
    refine lv_room ?_
    rw [List.map_map]
    exact hst
  have hgood : GoodIn jT (va_wsS own idx y (jwsw y c2 n2 hh)) := jT_good (fun w hw => by
    rcases List.mem_append.mp hw with g | g
    · simp only [List.mem_cons, List.not_mem_nil, or_false] at g
      rcases g with rfl | rfl | rfl
      · exact m1
      · exact m2
      · exact m3
    · exact hws w g)
  have hrun := vx_runSW (As := as.map jc) ⟨hc.1, hc.2.1, hc.2.2.2.1, hc.2.2.2.2.1, hc.2.2.2.2.2.1⟩ hMet (vx_cwSW (R := R) as.length hc.2.2.2.2.2.1 hgood rfl rfl rfl m5 ⟨hR.1, hR.2.1⟩) hpre rfl (by simp) hl.size hstk hroom hd ⟨hR.2.2.1, hR.2.2.2⟩ (e := e) (below := below) (meth := meth) (locs := locs)
  intro T hT X
  obtain ⟨v, st₀, t, T', L, h0, X', hL, e1, e2, ⟨⟨r, I', P', hv, hrv, hq, hwld⟩, hz, hk⟩, stp⟩ := hrun T hT X
  cases hv
  rw [h0] at hz hk
  have hS' : va_S (jA E) s.heap T'.heap (locs ++ L) := ⟨Nat.le_trans hS.1 (by rw [e1]; exact hz), fun q h1 h2 => by rw [e1, hk q (Nat.lt_of_lt_of_le h1 hS.1) h2]; exact hS.2.1 q h1 h2, fun q hq => by
      rcases List.mem_append.mp hq with h | h
      · exact hS.2.2 q h
      · exact hL q h⟩
  have hW := kk r I' P' hq p e s m args below meth c T'.heap (locs ++ L) la hc (by rw [e1]; exact hwld.2.1) hS' hl h1 (jRs_app.mpr ⟨by
      cases r with
      | none => trivial
      | some v => exact ⟨hrv v rfl, trivial⟩, r2⟩)
  rw [hZ] at hW
  obtain ⟨t2, a1, b1⟩ := hW T' rfl X'
  refine ⟨t2, stp t2 ?_, b1 hNA⟩
  have e3 : (r.map jc).toList ++ st.map jc = (r.toList ++ st).map jc := by cases r <;> simp
  rw [e3]
  exact a1
end JLR
