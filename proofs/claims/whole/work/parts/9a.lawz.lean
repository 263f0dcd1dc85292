section JLz
def R_law : String := "HouseMannerLaw"
def lw_P (b : Addr) (xs : List Int32) (args : Array Value) (s : State) : Prop := args = #[.ref b] ∧ s.IntsAt b xs ∧ xs.length ≤ 3072 ∧ (Jvm.Cond.and given_1 narrow_1).before args s = true
def lw_Q (_ : Array Value) (s : State) (o : Outcome) (t : State) : Prop := o = .returned (some (.int 1)) ∧ Framed s o t [] 601024 7293034
def lw_Z (below : List Frame) (a : Array Value) (s : State) : State → Prop := fun t => ∃ o, t.status = .running ∧ Ended t below o ∧ lw_Q a s o t
/-- the law's own end, with 1 on the stack, nothing written that was there before, its room as the claim has it -/
theorem lw_ret {p : Program} {l : Launch} {e : Env} {s : State} {m : MethodId} {below : List Frame} {meth : Method} {c : Code} {b : Nat} (hx : p.tables.exec = Jvm.exec) (hb : c.code = code) (hr : meth.sig.returnType = ret) (hlocks : meth.locks = false) {pc : Nat} {H : Heap} {ls : Array Slot} (hdg : decode code pc = .ok (.ireturn, 1)) : W p l e room_1 s m #[Value.ref b] below meth c H [] 601024 7293034 (lw_Z below #[Value.ref b] s) (F0 m pc ls [.int 1]) := by
  intro T hT X
  obtain ⟨fs, hret, hrun, hended, hW, hframe⟩ := X.leave (v := some (.int 1)) (hlocks := hlocks) (fun h => by rw [hr] at h; cases h)
  have hmeth' : T.vm.method? m = some meth := X.method'
  refine ⟨T.setFrames fs, ?_, .returned (some (.int 1)), hrun, hended, rfl, ⟨_, rfl⟩, hW, hframe⟩
  jvm_step X.here [X.here.top, hx, hb, hdg, hmeth', hr, ret, narrow_b1]
  (try refine ⟨rfl, ?_⟩); (try refine ⟨rfl, ?_⟩)
  first | (intro acts; rw [hret _ acts rfl rfl rfl]) | rw [hret _ _ rfl rfl rfl]
  exact Steps.refl _
/-- what holds at the law's entry: the machine, the code, the tables' words (any of lw_tbl by 'hts w (by decide +kernel)'), the script of L ints xs at the cell b, what the Statement gives of the start (any of its parts by flat_of_before) -/
def lw_At (p : Program) (s : State) (m : MethodId) (meth : Method) (c : Code) (b L : Nat) (xs : Nat → Int32) : Prop :=
  p.tables.exec = Jvm.exec ∧ c.code = code ∧ meth.sig.returnType = ret ∧ c.maxLocals = 7 ∧ s.vm.findClass R_law = some m.cls ∧ (∀ w ∈ lw_tbl, w.before #[Value.ref b] s = true) ∧ va_X b L xs s s.heap ∧ b < s.heap.size ∧ meth.locks = false ∧ (Jvm.Cond.and given_1 narrow_1).before #[Value.ref b] s = true
variable {E : jE} {own : String} {cc : ByteArray} {nL : Nat} {rt : Option FieldType} {R : Room} {Z : Code → List Frame → Array Value → State → State → Prop} {cs ss pc : Nat} {ls : List (Option jV)} {st : List jV} {I : jI} {P : jP} {b L z : Nat} {xs : Nat → Int32}
/-- what the law's walk knows of its start -/
def lwN (b L : Nat) (xs : Nat → Int32) (z : Nat) (args : Array Value) (s : State) : Prop := args = #[Value.ref b] ∧ va_X b L xs s s.heap ∧ b < s.heap.size ∧ z = s.heap.size ∧ jAO s ∧ jNc s
def jLZ (b L : Nat) (xs : Nat → Int32) (z : Nat) : Code → List Frame → Array Value → State → State → Prop := fun _ below args s t => lwN b L xs z args s → lw_Z below args s t
theorem jLZ_eq : ∀ (c : Code) (below : List Frame) (args : Array Value) (s : State), jLZ b L xs z c below args s = fun t => lwN b L xs z args s → lw_Z below args s t := fun _ _ _ _ => rfl
theorem jLZ_Nc : ∀ (args : Array Value) (s : State), lwN b L xs z args s → jNc s := fun _ _ h => h.2.2.2.2.2
theorem jLZ_AO : ∀ (args : Array Value) (s : State), lwN b L xs z args s → jAO s := fun _ _ h => h.2.2.2.2.1
theorem jAO_m : ∀ u U : State, u.vm.Alike U.vm → jAO u → jAO U := fun _ _ h k => ⟨k.1.moved h, k.2.1.moved h, k.2.2.moved h⟩
/-- the i-th int of the script -/
def xv (xs : Nat → Int32) (i : Int) : Int := (xs i.toNat).toInt
theorem jJ_sld {i : Int} (hz : eZ E = z) (hd : decode cc pc = .ok (.iaload, 1)) (hi : 0 ≤ i ∧ i < (L : Int)) (kk : jJ E own cc nL rt R (jLZ b L xs z) cs ss (pc + 1) ls (ji (xv xs i) :: st) I P) : jJ E own cc nL rt R (jLZ b L xs z) cs ss pc ls (ji i :: jp b :: st) I P := by
  intro p e s m args below meth c H locs la hc hH hS hl h1 h2
  refine W_if (fun hN => ?_)
  obtain ⟨n1, n2, n3, n4, n5⟩ := id hN
  refine va_sld hc.1 hc.2.1 n2 n3 (A := jA E) (fun zz => by unfold jA at zz; rw [hz, n4] at zz; omega) hS (jin h2.1 hi.1 hi.2) hd ?_
  rw [j32_clamp h2.1 hi.1]
  have hW := W_go hN (kk p e s m args below meth c H locs la hc hH hS hl h1 ⟨jR32 _, h2.2.2⟩)
  have e1 : jc (ji (xv xs i)) = .int (xs i.toNat) := by
    show Value.int (Int32.ofInt (xs i.toNat).toInt) = _
    rw [Int32.ofInt_toInt]
  rw [List.map_cons, e1] at hW
  exact hW
theorem jJ_scrl (hz : eZ E = z) (hL : L ≤ 3072) (hd : decode cc pc = .ok (.arraylength, 1)) (kk : jJ E own cc nL rt R (jLZ b L xs z) cs ss (pc + 1) ls (ji (L : Int) :: st) I P) : jJ E own cc nL rt R (jLZ b L xs z) cs ss pc ls (jp b :: st) I P := by
  intro p e s m args below meth c H locs la hc hH hS hl h1 h2
  refine W_if (fun hN => ?_)
  obtain ⟨n1, n2, n3, n4, n5⟩ := id hN
  refine va_slen hc.1 hc.2.1 n2 n3 (A := jA E) (fun zz => by unfold jA at zz; rw [hz, n4] at zz; omega) hS hd ?_
  have hW := W_go hN (kk p e s m args below meth c H locs la hc hH hS hl h1 ⟨⟨by omega, by omega⟩, h2.2⟩)
  have e1 : jc (ji (L : Int)) = .int (Int32.ofNat L) := by
    show Value.int (Int32.ofInt (L : Int)) = _
    rw [Int32.ofInt_eq_ofNat]
  rw [List.map_cons, e1] at hW
  exact hW
theorem jJ_arg {i j : Int} (hz : eZ E = z) (d0 : decode cc pc = .ok (.aload_n 0, 1)) (d1 : decode cc (pc + 1) = .ok (.iload 4, 2)) (d3 : decode cc (pc + 3) = .ok (.iconst j, 1)) (d4 : decode cc (pc + 4) = .ok (.iadd, 1)) (d5 : decode cc (pc + 5) = .ok (.iaload, 1)) (h0 : ls[0]? = some (some (jp b))) (h4 : ls[4]? = some (some (ji i))) (hi : 0 ≤ i ∧ i + 5 < (L : Int)) (hL : L ≤ 3072) (hj : 1 ≤ j ∧ j ≤ 5) (kk : jJ E own cc nL rt R (jLZ b L xs z) cs ss (pc + 6) ls (ji (xv xs (i + j)) :: st) I P) : jJ E own cc nL rt R (jLZ b L xs z) cs ss pc ls st I P := by
  refine jJ_aload_n (k := 0) d0 h0 ?_
  refine jJ_iload (pc := pc + 1) d1 h4 ?_
  refine jJ_iconst (pc := pc + 3) d3 ⟨by omega, by omega⟩ ?_
  refine jJ_iadd (pc := pc + 4) d4 ⟨by omega, by omega⟩ ?_
  exact jJ_sld (pc := pc + 5) hz d5 ⟨by omega, by omega⟩ kk
/-- the law's end -/
theorem jJ_lret (hz : eZ E = z) (hcs : cs ≤ 601024 ∧ ss ≤ 7293034) (hd : decode code pc = .ok (.ireturn, 1)) : jJ E RL code 7 (some .boolean) room_1 (jLZ b L xs z) cs ss pc ls [ji 1] I P := by
  intro p e s m args below meth c H locs la hc hH hS hl h1 h2
  refine W_if (fun hN => ?_)
  obtain ⟨rfl, n2, n3, n4, n5⟩ := hN
  refine va_forget (fun q hq => ?_) (W.widen hcs.1 hcs.2 (lw_ret hc.1 hc.2.1 hc.2.2.1 hc.2.2.2.2.2.2.1 hd))
  have := hS.2.2 q hq
  unfold jA at this
  rw [← n4, ← hz]
  exact this
/-- a constructor that needs A is called -/
theorem jJ_callNA {A : State → Prop} {Q : jE → jI → jP → Prop} {Z' : Code → List Frame → Array Value → State → State → Prop} {N : Array Value → State → Prop} (hZ : ∀ c below args s, Z c below args s = fun t => N args s → Z' c below args s t) (hN : ∀ args s, N args s → A s) (hAm : ∀ u U : State, u.vm.Alike U.vm → A u → A U) {idx n2 d b mc ms : Nat} {y : MethodName} {c2 : ByteArray} {as : List jV} (hd : decode cc pc = .ok (.invokespecial idx, 3)) (m1 : Cond.methodLink own idx y ∈ jT) (m2 : Cond.instanceMethod y ∈ jT) (m3 : Cond.initialized y.cls ∈ jT) (m4 : Cond.code y c2 n2 none ∈ jT) (m5 : jPn y as.length) (m6 : y.name = "<init>") (hst : (st.map (fun v => (jc v).category)).sum ≤ 8) (hR : d + 1 ≤ R.frames ∧ 8 + (n2 + 11) + 60 * d ≤ R.locals ∧ cs + mc ≤ R.cells ∧ ss + ms ≤ R.slots)
    (hC : jN E A y c2 n2 d mc ms (jp b :: as) I P Q) (kk : ∀ E' I' P', eSame E E' → Q E' I' P' → jJ E' own cc nL rt R Z (cs + mc) (ss + ms) (pc + 3) ls st I' P') : jJ E own cc nL rt R Z cs ss pc ls (as.reverse ++ jp b :: st) I P := by
  intro p e s m args below meth c H locs la hc hH hS hl h1 h2
  by_cases hNA : N args s
  · obtain ⟨r1, r2⟩ := jRs_app.mp h2
    have hAs := hN args s hNA
    have hMet := hC ⟨trivial, jRs_rev.mp r1⟩
    have hws : ∀ w ∈ jws y c2 n2 none, w ∈ jT := fun w hw => by
      rcases List.mem_cons.mp hw with rfl | h
      · exact m4
      · exact h
    have hpre : PreS s H (va_Pc ((jp b :: as).map jc) (fun U => jWld E I P U ∧ A U)) (.ref b :: as.map jc) := ⟨fun a U g mk z => ⟨z.1, (jWld_blind (av := (jp b :: as).map jc) a U g mk ⟨z.1, z.2.1⟩).2, hAm U (U.calling g mk a) (Vm.Alike.refl U.vm) z.2.2⟩, fun U hU hW => ⟨rfl, jWld_of hc.2.2.2.2.2.2.2.2.2 hH hS hc.2.2.2.2.2.2.2.1 hc.2.2.2.2.2.2.2.2.1 hW hU, hAm s U hW.alike hAs⟩⟩
    have hstk : (F0 m pc la ((as.reverse ++ jp b :: st).map jc)).stack = (as.map jc).reverse ++ .ref b :: st.map jc := by simp [List.map_reverse, jc, va_rf]
    have hroom : 2 * (F0 m pc la ((as.reverse ++ jp b :: st).map jc)).monitorRoom + ((st.map jc).map fun v => v.category).sum ≤ 8 := by
      refine lv_room ?_
      rw [List.map_map]
      exact hst
    exact jJ_goonN hc hS hl h1 r2.2 (va_runI (As := as.map jc) (b := b) ⟨hc.1, hc.2.1, hc.2.2.2.1, hc.2.2.2.2.1, hc.2.2.2.2.2.1⟩ hMet (cwI as.length hc.2.2.2.2.2.1 (jT_good hws) rfl rfl rfl (hc.2.2.2.2.2.1 _ m3) (hc.2.2.2.2.2.1 _ m1) (hc.2.2.2.2.2.1 _ m2) m6 m5 ⟨hR.1, hR.2.1⟩) hpre rfl (by simp) hl.size hstk hroom hd ⟨hR.2.2.1, hR.2.2.2⟩) kk
  · rw [hZ]
    exact W_if (fun h => absurd h hNA)
end JLz
