section JFF
theorem jNw_warm {w : Cond} {s U : State} (hk : (w.onTables && w.keepsFace) = true) (hW : s.WarmedH U.vm) (h : va_Nw w s) : va_Nw w U := by
  simp only [Bool.and_eq_true] at hk
  have h1 : w.before #[] (s.setVm U.vm) = true := Cond.before_shiftedFace (State.Shifted.of_warmed hW) w hk.2 h
  exact va_tabs hk.1 (rfl : (s.setVm U.vm).vm = U.vm) h1
theorem jX_moved {E : jE} {s t : State} {H : Heap} {locs : List Loc} (h : jX E s s.heap) (hS : va_S (jA E) s.heap H locs) (hW : s.WarmedH t.vm) (ht : t.heap = H) : jX E t t.heap := by
  obtain ⟨h1, ⟨h2, h3⟩, h4, h5, h6, h8, h9⟩ := h
  rw [ht]
  refine ⟨fun w hw hn => ?_, ⟨vk_S.kept (vk_S.moved hW.alike h2) hS.2.1, fun q hq => vk_R.warm hW (h3 q hq)⟩, va_Z.kept (va_Z.moved hW.alike h4) hS.2.1, vx_Zq.kept (vx_Zq.moved hW.alike h5) hS.2.1, vx_Zq.kept (vx_Zq.moved hW.alike h6) hS.2.1, va_Zq.kept (va_Zq.moved hW.alike h8) hS.2.1, fun w hw hk => jNw_warm hk hW (h9 w hw hk)⟩
  have h7 := h1 w hw hn
  cases w <;> simp only [jNst] at hn <;> first | exact va_Nw.warmF hW h7 | exact va_Nw.warmM hW h7 | cases hn
theorem jX_same {E : jE} {u U : State} (hv : u.vm = U.vm) (hh : U.heap = u.heap) (h : jX E u u.heap) : jX E U U.heap := by
  obtain ⟨h1, ⟨h2, h3⟩, h4, h5, h6, h8, h9⟩ := h
  rw [hh]
  have ha : u.vm.Alike U.vm := by rw [hv]; exact Vm.Alike.refl _
  refine ⟨fun w hw hn => ?_, ⟨vk_S.moved ha h2, fun q hq => vk_R.same hv.symm (h3 q hq)⟩, va_Z.moved ha h4, vx_Zq.moved ha h5, vx_Zq.moved ha h6, va_Zq.moved ha h8, fun w hw hk => va_Nw.same (by simp only [Bool.and_eq_true] at hk; exact hk.1) hv (h9 w hw hk)⟩
  have h7 := h1 w hw hn
  cases w <;> simp only [jNst] at hn <;> first | exact va_Nw.same rfl hv h7 | cases hn
theorem jWld_of {E : jE} {I : jI} {P : jP} {s t : State} {H : Heap} {locs : List Loc} (hz : eZ E ≤ s.heap.size) (hH : jHp E I P H) (hS : va_S (jA E) s.heap H locs) (hK : va_K (eD E) vwCl (jTys E) s) (hX : jX E s s.heap) (hW : s.WarmedH t.vm) (ht : t.heap = H) : jWld E I P t :=
  ⟨by rw [ht]; exact Nat.le_trans hz hS.1, by rw [ht]; exact hH, va_K.moved hW.alike hK, jX_moved hX hS hW ht⟩
theorem jWld_blind {E : jE} {I : jI} {P : jP} {av : List Value} : FrameBlind (va_Pc av (jWld E I P)) := by
  intro a U g mk q
  obtain ⟨q0, q1, q2, q3, q4⟩ := q
  exact ⟨q0, q1, q2, va_K.moved (u := U) (U := U.calling g mk a) (Vm.Alike.refl U.vm) q3, jX_same (u := U) (U := U.calling g mk a) rfl rfl q4⟩
def jQ (E : jE) (Q : Option jV → jI → jP → Prop) : Array Value → State → Outcome → State → Prop := fun _ st oc t => (∃ (r : Option jV) (I : jI) (P : jP), oc = .returned (r.map jc) ∧ (∀ v, r = some v → jRv v) ∧ Q r I P ∧ jWld E I P t) ∧ va_F (jA E) st t
def jZ (E : jE) (Q : Option jV → jI → jP → Prop) : Code → List Frame → Array Value → State → State → Prop := fun _ below args s => MQ below (jQ E Q) args s 0 0 (jA E)
def jRm (d : Nat) : Room := { frames := d, cells := 0, slots := 0, locals := 60 * d }
def jws (y : MethodName) (cc : ByteArray) (n : Nat) (rt : Option FieldType) : List Cond := Cond.code y cc n rt :: jT
/-- the contract of a method that throws nothing: with these arguments, in this memory, it comes back with Q -/
def jC (E : jE) (y : MethodName) (cc : ByteArray) (n : Nat) (rt : Option FieldType) (d : Nat) (as : List jV) (I : jI) (P : jP) (Q : Option jV → jI → jP → Prop) : Prop :=
  jRs as → Met (eX E) y (jws y cc n rt) (jRm d) (va_Pc (as.map jc) (jWld E I P)) (jQ E Q) 0 0 (jA E)
theorem jRs_app {a b : List jV} : jRs (a ++ b) ↔ jRs a ∧ jRs b := by
  induction a with
  | nil => simp [jRs]
  | cons v t ih => simp [jRs, ih, and_assoc]
theorem jRs_rev {a : List jV} : jRs a.reverse ↔ jRs a := by
  induction a with
  | nil => simp [jRs]
  | cons v t ih => rw [List.reverse_cons, jRs_app, ih]; simp [jRs, and_comm]
theorem jRs_get {as : List jV} (h : jRs as) {i : Nat} {v : jV} (hi : as[i]? = some v) : jRv v := by
  induction as generalizing i with
  | nil => simp at hi
  | cons w t ih =>
    cases i with
    | zero => cases hi; exact h.1
    | succ k => exact ih h.2 (by simpa using hi)
theorem lv_args_mem1 : ∀ (vs : List Value) (i : Nat), (∀ v ∈ vs, v.category = 1) → ∀ (j : Nat) (v : Value), vs[j]? = some v → (i + j, v) ∈ lv_args i vs
  | [], i, _, j, v, hj => by simp at hj
  | w :: t, i, h, 0, v, hj => by cases hj; exact List.mem_cons_self
  | w :: t, i, h, j + 1, v, hj => by
    have h1 : w.category = 1 := h w List.mem_cons_self
    refine List.mem_cons_of_mem _ ?_
    rw [h1, if_neg (by decide)]
    have h2 := lv_args_mem1 t (i + 1) (fun u hu => h u (List.mem_cons_of_mem _ hu)) j v (by simpa using hj)
    rw [show i + (j + 1) = i + 1 + j by omega]
    exact h2
theorem lg_sl_len : ∀ (vs : List Value), (∀ v ∈ vs, v.category = 1) → (lg_sl vs).length = vs.length
  | [], _ => rfl
  | w :: t, h => by
    have h1 : w.category = 1 := h w List.mem_cons_self
    have h2 := lg_sl_len t (fun u hu => h u (List.mem_cons_of_mem _ hu))
    simp only [lg_sl, List.flatMap_cons, h1] at h2 ⊢
    simp only [List.length_append, List.length_cons]
    simp only [show ¬ (1 : Nat) = 2 by decide, if_false, List.length_cons, List.length_nil]
    omega
def jEnt (as : List jV) (n : Nat) : List (Option jV) := as.map some ++ List.replicate (n - as.length) none
theorem jEnt_at {as : List jV} {n i : Nat} {v : jV} (h : (jEnt as n)[i]? = some (some v)) : as[i]? = some v := by
  unfold jEnt at h
  by_cases hi : i < as.length
  · rw [List.getElem?_append_left (by simpa using hi), List.getElem?_map] at h
    cases hq : as[i]? with
    | none => rw [hq] at h; cases h
    | some w => rw [hq] at h; cases h; rfl
  · rw [List.getElem?_append_right (by simpa using hi), List.getElem?_replicate] at h
    split at h <;> cases h
theorem jC_intro {E : jE} {y : MethodName} {cc : ByteArray} {n d : Nat} {rt : Option FieldType} {as : List jV} {I : jI} {P : jP} {Q : Option jV → jI → jP → Prop} (hy : plainName y.cls = true) (hcat : ∀ v ∈ as, (jc v).category = 1) (hn : as.length ≤ n)
    (h : jJ E y.cls cc n rt (jRm d) (jZ E Q) 0 0 0 (jEnt as n) [] I P) : jC E y cc n rt d as I P Q := by
  intro hr
  refine Met.ofW (cc := cc) (maxL := n) (ret := rt) hy rfl ?_
  intro p e s m args below meth c s₁ B hml hv
  obtain ⟨rfl, hz, hH, hK, hX⟩ := hv
  have hcat2 : ∀ v ∈ as.map jc, v.category = 1 := by
    intro v hv
    obtain ⟨w, hw, rfl⟩ := List.mem_map.mp hv
    exact hcat w hw
  have hll := lg_sl_len (as.map jc) hcat2
  rw [lg_entry_eq]
  have hl := lv_entry (as.map jc) (n := n) (by rw [hll, List.length_map]; exact hn)
  refine h p e s m _ below meth c s.heap [] _ ⟨B.exec, B.bytes, B.returns, hml, findClass_of_methodNamed B.named, fun w hw => atoms_spec (ws := jws y cc n rt) B.pre w (List.mem_cons_of_mem _ hw), B.notSynchronized, hK, hX, hz⟩ hH va_S.rf ⟨⟨hl.1, hl.2.1, ?_⟩, ?_, ?_⟩ ?_ trivial
  · rintro ⟨j, w⟩ hq
    obtain ⟨v, h1, rfl⟩ := jLl_mem.mp hq
    have h2 := lv_args_mem1 (as.map jc) 0 hcat2 j (jc v) (by rw [List.getElem?_map, jEnt_at h1]; rfl)
    rw [Nat.zero_add] at h2
    exact hl.2.2 _ h2
  · simp [jEnt]; omega
  · intro i v h1
    exact hcat v (List.mem_of_getElem? (jEnt_at h1))
  · intro i v h1
    exact jRs_get hr (jEnt_at h1)
variable {E : jE} {own : String} {cc : ByteArray} {nL : Nat} {rt : Option FieldType} {R : Room} {Z : Code → List Frame → Array Value → State → State → Prop} {cs ss pc : Nat} {ls : List (Option jV)} {st : List jV} {I : jI} {P : jP} {Q : Option jV → jI → jP → Prop}
theorem jJ_iret {x : Int} (hd : decode cc pc = .ok (.ireturn, 1)) (hrt : rt = some .int) (hq : Q (some (ji x)) I P) : jJ E own cc nL rt R (jZ E Q) 0 0 pc ls [ji x] I P := by
  intro p e s m args below meth c H locs la hc hH hS hl h1 h2
  exact W.iret hc.1 hc.2.1 (hc.2.2.1.trans hrt) (fun t ht hW => ⟨⟨some (ji x), I, P, rfl, fun v hv => by cases hv; exact h2.1, hq, jWld_of hc.2.2.2.2.2.2.2.2.2 hH hS hc.2.2.2.2.2.2.2.1 hc.2.2.2.2.2.2.2.2.1 hW ht⟩, hS.F ht⟩) hS.2.2 hd hc.2.2.2.2.2.2.1
theorem jJ_zret {x : Int} (hd : decode cc pc = .ok (.ireturn, 1)) (hrt : rt = some .boolean) (hx : x = 0 ∨ x = 1) (hq : Q (some (ji x)) I P) : jJ E own cc nL rt R (jZ E Q) 0 0 pc ls [ji x] I P := by
  intro p e s m args below meth c H locs la hc hH hS hl h1 h2
  exact W.zret (ty := .boolean) hc.1 hc.2.1 (hc.2.2.1.trans hrt) (by rcases hx with rfl | rfl <;> decide) (fun t ht hW => ⟨⟨some (ji x), I, P, rfl, fun v hv => by cases hv; exact h2.1, hq, jWld_of hc.2.2.2.2.2.2.2.2.2 hH hS hc.2.2.2.2.2.2.2.1 hc.2.2.2.2.2.2.2.2.1 hW ht⟩, hS.F ht⟩) hS.2.2 hd hc.2.2.2.2.2.2.1
theorem jJ_vret (hd : decode cc pc = .ok (.return_, 1)) (hrt : rt = none) (hq : Q none I P) : jJ E own cc nL rt R (jZ E Q) 0 0 pc ls [] I P := by
  intro p e s m args below meth c H locs la hc hH hS hl h1 h2
  exact W.vret hc.1 hc.2.1 (hc.2.2.1.trans hrt) (fun t ht hW => ⟨⟨none, I, P, rfl, fun v hv => (by cases hv), hq, jWld_of hc.2.2.2.2.2.2.2.2.2 hH hS hc.2.2.2.2.2.2.2.1 hc.2.2.2.2.2.2.2.2.1 hW ht⟩, hS.F ht⟩) hS.2.2 hd hc.2.2.2.2.2.2.1
/-- the receiver is an object of the class C -/
def jRcv (E : jE) (C : String) (b : Nat) : Prop := (b ∈ eL E ∧ ∃ q : vw_C, vwCl[eK E b]? = some q ∧ q.1 = C) ∨ (C = "java/lang/String" ∧ ∃ i : Nat, i < 15 ∧ b = eSk E i)
theorem jRcv_of {C : String} {ci b : Nat} {q : vw_C} (hb : jK E ci b) (hq : vwCl[ci]? = some q) (hC : q.1 = C) : jRcv E C b := Or.inl ⟨hb.1, q, by rw [hb.2]; exact hq, hC⟩
def jPn (y : MethodName) (n : Nat) : Prop := y.cls ≠ "java/lang/invoke/MethodHandle" ∧ y.cls ≠ "java/lang/invoke/VarHandle" ∧ (parseMethodDescriptor y.desc).map (fun d => d.parameters.length) = some n
def jMv (own : String) (idx : Nat) (C : String) (y : MethodName) (c2 : ByteArray) (n2 : Nat) (rt2 : Option FieldType) (n : Nat) : Prop :=
  Cond.methodLink own idx y ∈ jT ∧ Cond.instanceMethod y ∈ jT ∧ Cond.selects C y y ∈ jT ∧ Cond.initialized C ∈ jT ∧ Cond.code y c2 n2 rt2 ∈ jT ∧ y.cls = C ∧ jPn y n
def jMs (own : String) (idx : Nat) (y : MethodName) (c2 : ByteArray) (n2 : Nat) (rt2 : Option FieldType) (n : Nat) : Prop :=
  (Cond.methodLink own idx y ∈ jT ∨ ∃ host, Cond.methodLinkNest own idx y host ∈ lw_tbl) ∧ Cond.static y ∈ jT ∧ Cond.initialized y.cls ∈ jT ∧ Cond.code y c2 n2 rt2 ∈ jT ∧ jPn y n
theorem jJ_goon {p : Program} {e : Env} {s : State} {m : MethodId} {args : Array Value} {below : List Frame} {meth : Method} {c : Code} {H : Heap} {locs : List Loc} {la : Array Slot} {st0 : List Value} {ag : Array Value} (hc : jCtx E own cc nL rt p s m args meth c) (hS : va_S (jA E) s.heap H locs) (hl : jLoc la nL ls) (h1 : jRl ls) (h2 : jRs st)
    (hrun : va_Run p (eX E) e R s m args below meth c H locs cs ss 0 0 (F0 m pc la st0) (st.map jc) (jQ E Q ag) (jA E)) (kk : ∀ r I' P', Q r I' P' → jJ E own cc nL rt R Z cs ss (pc + 3) ls (r.toList ++ st) I' P') : W p (eX E) e R s m args below meth c H locs cs ss (Z c below args s) (F0 m pc la st0) := by
  intro T hT X
  obtain ⟨v, st₀, t, T', L, h0, X', hL, e1, e2, ⟨⟨r, I', P', hv, hrv, hq, hwld⟩, hz, hk⟩, stp⟩ := hrun T hT X
  cases hv
  rw [h0] at hz hk
  have hS' : va_S (jA E) s.heap T'.heap (locs ++ L) := ⟨Nat.le_trans hS.1 (by rw [e1]; exact hz), fun q h1 h2 => by rw [e1, hk q (Nat.lt_of_lt_of_le h1 hS.1) h2]; exact hS.2.1 q h1 h2, fun q hq => by
      rcases List.mem_append.mp hq with h | h
      · exact hS.2.2 q h
      · exact hL q h⟩
  obtain ⟨t2, a1, b1⟩ := kk r I' P' hq p e s m args below meth c T'.heap (locs ++ L) la hc (by rw [e1]; exact hwld.2.1) hS' hl h1 (jRs_app.mpr ⟨by
    cases r with
    | none => trivial
    | some v => exact ⟨hrv v rfl, trivial⟩, h2⟩) T' rfl X'
  refine ⟨t2, stp t2 ?_, b1⟩
  have e3 : (r.map jc).toList ++ st.map jc = (r.toList ++ st).map jc := by cases r <;> simp
  rw [e3]
  exact a1
theorem jJ_callV {idx n2 d b : Nat} {C : String} {y : MethodName} {c2 : ByteArray} {rt2 : Option FieldType} {as : List jV} (hd : decode cc pc = .ok (.invokevirtual idx, 3)) (hM : jMv own idx C y c2 n2 rt2 as.length) (hrc : jRcv E C b) (hst : (st.map (fun v => (jc v).category)).sum ≤ 8) (hR : d + 1 ≤ R.frames ∧ 8 + (n2 + 11) + 60 * d ≤ R.locals ∧ cs ≤ R.cells ∧ ss ≤ R.slots)
    (hC : jC E y c2 n2 rt2 d (jp b :: as) I P Q) (kk : ∀ r I' P', Q r I' P' → jJ E own cc nL rt R Z cs ss (pc + 3) ls (r.toList ++ st) I' P') : jJ E own cc nL rt R Z cs ss pc ls (as.reverse ++ jp b :: st) I P := by
  intro p e s m args below meth c H locs la hc hH hS hl h1 h2
  obtain ⟨m1, m2, m3, m4, m5, m6, m7⟩ := hM
  obtain ⟨r1, r2⟩ := jRs_app.mp h2
  have hMet := hC ⟨trivial, jRs_rev.mp r1⟩
  have hgood : GoodIn jT (wsV own idx C y (jws y c2 n2 rt2)) := jT_good (fun w hw => by
    rcases List.mem_append.mp hw with h | h
    · simp only [List.mem_cons, List.not_mem_nil, or_false] at h
      rcases h with rfl | rfl | rfl | rfl
      · exact m1
      · exact m2
      · exact m3
      · exact m4
    · rcases List.mem_cons.mp h with rfl | h
      · exact m5
      · exact h)
  have hrecv : ∃ cellB : Cell, H[b]? = some cellB ∧ cellB.vm.isStatics = false ∧ s.vm.findClass C = some cellB.cls := by
    rcases hrc with ⟨hb, q, hq, rfl⟩ | ⟨rfl, i, hi, rfl⟩
    · obtain ⟨i0, hi0⟩ := jPool_get (I := I) (P := P) hb
      rw [jCell_obj rfl (jcl_nf hq).2] at hi0
      exact va_recv hc.2.2.2.2.2.2.2.1 hH.1 hq hi0
    · exact vk_recv hc.2.2.2.2.2.2.2.2.1.2.1.1 hi hS
  refine jJ_goon hc hS hl h1 r2.2 (va_runV (As := as.map jc) (b := b) ⟨hc.1, hc.2.1, hc.2.2.2.1, hc.2.2.2.2.1, hc.2.2.2.2.2.1⟩ hMet (cwV as.length hc.2.2.2.2.2.1 hgood rfl rfl rfl ⟨m6, m7⟩ ⟨hR.1, hR.2.1⟩) ⟨jWld_blind, hrecv, fun U hU hW => ⟨rfl, jWld_of hc.2.2.2.2.2.2.2.2.2 hH hS hc.2.2.2.2.2.2.2.1 hc.2.2.2.2.2.2.2.2.1 hW hU⟩⟩ rfl (by simp) hl.size ?_ ?_ hd ⟨hR.2.2.1, hR.2.2.2⟩) kk
  · simp [jc, va_rf, List.map_reverse]
  · refine lv_room ?_
    rw [List.map_map]
    exact hst
theorem jJ_callS {idx n2 d : Nat} {y : MethodName} {c2 : ByteArray} {rt2 : Option FieldType} {as : List jV} (hd : decode cc pc = .ok (.invokestatic idx, 3)) (hM : jMs own idx y c2 n2 rt2 as.length) (hst : (st.map (fun v => (jc v).category)).sum ≤ 8) (hR : d + 1 ≤ R.frames ∧ 8 + (n2 + 11) + 60 * d ≤ R.locals ∧ cs ≤ R.cells ∧ ss ≤ R.slots)
    (hC : jC E y c2 n2 rt2 d as I P Q) (kk : ∀ r I' P', Q r I' P' → jJ E own cc nL rt R Z cs ss (pc + 3) ls (r.toList ++ st) I' P') : jJ E own cc nL rt R Z cs ss pc ls (as.reverse ++ st) I P := by
  intro p e s m args below meth c H locs la hc hH hS hl h1 h2
  obtain ⟨m1, m2, m3, m4, m5⟩ := hM
  obtain ⟨r1, r2⟩ := jRs_app.mp h2
  have hMet := hC (jRs_rev.mp r1)
  have hws : ∀ w ∈ jws y c2 n2 rt2, w ∈ jT := fun w hw => by
    rcases List.mem_cons.mp hw with rfl | h
    · exact m4
    · exact h
  have hpre : PreS s H (va_Pc (as.map jc) (jWld E I P)) (as.map jc) := ⟨jWld_blind, fun U hU hW => ⟨rfl, jWld_of hc.2.2.2.2.2.2.2.2.2 hH hS hc.2.2.2.2.2.2.2.1 hc.2.2.2.2.2.2.2.2.1 hW hU⟩⟩
  have hstk : (F0 m pc la ((as.reverse ++ st).map jc)).stack = (as.map jc).reverse ++ st.map jc := by simp [List.map_reverse]
  have hroom : 2 * (F0 m pc la ((as.reverse ++ st).map jc)).monitorRoom + ((st.map jc).map fun v => v.category).sum ≤ 8 := by
    refine lv_room ?_
    rw [List.map_map]
    exact hst
  have hsig : ∀ sig, parseMethodDescriptor y.desc = some sig → as.length = sig.parameters.length := fun sig h => by
    have h2 := m5.2.2
    rw [h] at h2
    exact (Option.some.inj h2).symm
  rcases m1 with m1 | ⟨host, m1⟩
  · exact jJ_goon hc hS hl h1 r2 (va_runS (bytes := c2) (maxL := n2) (ret := rt2) (As := as.map jc) ⟨hc.1, hc.2.1, hc.2.2.2.1, hc.2.2.2.2.1, hc.2.2.2.2.2.1⟩ hMet ⟨⟨rfl, rfl, hR.1, hR.2.1, pay_in hc.2.2.2.2.2.1 (jT_good hws), List.mem_cons_self, hc.2.2.2.2.2.1 _ m4, hc.2.2.2.2.2.1 _ m3, ⟨m5.1, m5.2.1⟩, hsig, hc.2.2.2.2.2.1 _ m1⟩, hc.2.2.2.2.2.1 _ m2⟩ hpre rfl (by simp) hl.size hstk hroom hd ⟨hR.2.2.1, hR.2.2.2⟩) kk
  · exact jJ_goon hc hS hl h1 r2 (va_runSN (host := host) (As := as.map jc) ⟨hc.1, hc.2.1, hc.2.2.2.1, hc.2.2.2.2.1, hc.2.2.2.2.2.1⟩ hMet ⟨va_cnB as.length hc.2.2.2.2.2.1 (jT_good hws) rfl rfl rfl (hc.2.2.2.2.2.2.2.2.1.1 _ m1 rfl) (hc.2.2.2.2.2.1 _ m3) m5 ⟨hR.1, hR.2.1⟩, hc.2.2.2.2.2.1 _ m2, trivial⟩ hpre rfl (by simp) hl.size hstk hroom hd ⟨hR.2.2.1, hR.2.2.2⟩) kk
end JFF
