section JThr
def jNms : List String := ["java/lang/RuntimeException", "java/lang/Exception"]
def jIAE : String := "java/lang/IllegalArgumentException"
def jNSE : String := "java/util/NoSuchElementException"
theorem thr_IAE : ∀ w ∈ vx_at0 RX6 92 jIAE jNms, w ∈ lw_tbl := by decide +kernel
theorem thr_NSE : ∀ w ∈ vx_at0 RX6 123 jNSE jNms, w ∈ lw_tbl := by decide +kernel
theorem thr_IAEg : (vx_at0 RX6 92 jIAE jNms).all (fun w => goodWord w || (w.onTables && w.keepsFace)) = true := by decide +kernel
theorem thr_NSEg : (vx_at0 RX6 123 jNSE jNms).all (fun w => goodWord w || (w.onTables && w.keepsFace)) = true := by decide +kernel
/-- a class that is thrown: its entry, its constructor's entry, its words -/
def jTh (ik ic : Nat) (cls : String) : Prop := Bundle.fit cls = true ∧ Cond.classLink RX6 ik cls ∈ jT ∧ Cond.initialized cls ∈ jT ∧ (∀ w ∈ vx_at0 RX6 ic cls jNms, w ∈ lw_tbl) ∧ (vx_at0 RX6 ic cls jNms).all (fun w => goodWord w || (w.onTables && w.keepsFace)) = true
theorem thi_IAE : Cond.initialized jIAE ∈ jT := jT_mem (tb_1 (List.mem_of_getElem? (i := 12) (by decide +kernel))) rfl
theorem thc_IAE : Cond.classLink RX6 90 jIAE ∈ jT := jT_mem (tb_2 (List.mem_of_getElem? (i := 170) (by decide +kernel))) rfl
theorem thi_NSE : Cond.initialized jNSE ∈ jT := jT_mem (tb_1 (List.mem_of_getElem? (i := 20) (by decide +kernel))) rfl
theorem thc_NSE : Cond.classLink RX6 121 jNSE ∈ jT := jT_mem (tb_3 (List.mem_of_getElem? (i := 194) (by decide +kernel))) rfl
theorem jth_IAE : jTh 90 92 jIAE := ⟨by decide +kernel, thc_IAE, thi_IAE, thr_IAE, thr_IAEg⟩
theorem jth_NSE : jTh 121 123 jNSE := ⟨by decide +kernel, thc_NSE, thi_NSE, thr_NSE, thr_NSEg⟩
theorem jNms_fit : ∀ n ∈ jNms, Bundle.fit n = true := by decide +kernel
def jXC (E : jE) (X : String → jI → jP → Prop) : String → State → State → Prop := fun Ec st t => (∃ (I : jI) (P : jP), X Ec I P ∧ jHp E I P t.heap) ∧ va_F (jA E) st t
def jNoT (c : Code) : Prop := ∀ x ∈ c.exceptionTable.toList, False
/-- the end of a method that may throw -/
def jZx (E : jE) (Q : Option jV → jI → jP → Prop) (X : String → jI → jP → Prop) (mc : Nat) : Code → List Frame → Array Value → State → State → Prop := fun c below args s t => jNoT c → vx_MQ below (jQ E Q) (jXC E X) args s mc (6 * mc) (jA E) t
def jRmx (d c : Nat) : Room := { frames := d, cells := c, slots := 6 * c, locals := 60 * d }
/-- the contract of a method that may throw -/
def jCx (E : jE) (y : MethodName) (cc : ByteArray) (n : Nat) (rt : Option FieldType) (d mc : Nat) (as : List jV) (I : jI) (P : jP) (Q : Option jV → jI → jP → Prop) (X : String → jI → jP → Prop) : Prop :=
  jRs as → vx_Met (eX E) y (jws y cc n rt) (jRmx d mc) (va_Pc (as.map jc) (jWld E I P)) (jQ E Q) (jXC E X) mc (6 * mc) (jA E)
theorem W_if {p : Program} {l : Launch} {e : Env} {R : Room} {s : State} {m : MethodId} {args : Array Value} {below : List Frame} {meth : Method} {c : Code} {H : Heap} {locs : List Loc} {cells slots : Nat} {Q : State → Prop} {g : JFrame} {N : Prop} (k : N → W p l e R s m args below meth c H locs cells slots Q g) : W p l e R s m args below meth c H locs cells slots (fun t => N → Q t) g := by
  intro T hT X
  by_cases hN : N
  · obtain ⟨t, a, b⟩ := k hN T hT X
    exact ⟨t, a, fun _ => b⟩
  · exact ⟨_, Steps.refl _, fun z => absurd z hN⟩
theorem jCx_intro {E : jE} {y : MethodName} {cc : ByteArray} {n d mc : Nat} {rt : Option FieldType} {as : List jV} {I : jI} {P : jP} {Q : Option jV → jI → jP → Prop} {X : String → jI → jP → Prop} (hy : plainName y.cls = true) (hcat : ∀ v ∈ as, (jc v).category = 1) (hn : as.length ≤ n)
    (h : jJ E y.cls cc n rt (jRmx d mc) (jZx E Q X mc) 0 0 0 (jEnt as n) [] I P) : jCx E y cc n rt d mc as I P Q X := by
  intro hr
  refine vx_ofW (cc := cc) (maxL := n) (ret := rt) hy rfl ?_
  intro p e s m args below meth c s₁ B hml hnt hv
  obtain ⟨rfl, hz, hH, hK, hX⟩ := hv
  have hcat2 : ∀ v ∈ as.map jc, v.category = 1 := by
    intro v hv
    obtain ⟨w, hw, rfl⟩ := List.mem_map.mp hv
    exact hcat w hw
  have hll := lg_sl_len (as.map jc) hcat2
  rw [lg_entry_eq]
  have hl := lv_entry (as.map jc) (n := n) (by rw [hll, List.length_map]; exact hn)
  have hW := h p e s m _ below meth c s.heap [] _ ⟨B.exec, B.bytes, B.returns, hml, findClass_of_methodNamed B.named, fun w hw => atoms_spec (ws := jws y cc n rt) B.pre w (List.mem_cons_of_mem _ hw), B.notSynchronized, hK, hX, hz⟩ hH va_S.rf ⟨⟨hl.1, hl.2.1, ?_⟩, ?_, ?_⟩ ?_ trivial
  · intro T hT X
    obtain ⟨t, a, b⟩ := hW T hT X
    exact ⟨t, a, b hnt⟩
  · rintro ⟨j, w⟩ hq
    obtain ⟨v, h1, rfl⟩ := jLl_mem.mp hq
    have h2 := lv_args_mem1 (as.map jc) 0 hcat2 j (jc v) (by rw [List.getElem?_map, jEnt_at h1]; rfl)
    rw [Nat.zero_add] at h2
    exact hl.2.2 _ h2
  · simp [jEnt]; omega
  · intro i v h1
    exact hcat v (List.mem_of_getElem? (jEnt_at h1))
  · intro i v h1
    exact jRs_get hr (jEnt_at h1)
variable {E : jE} {own : String} {cc : ByteArray} {nL : Nat} {rt : Option FieldType} {R : Room} {Z : Code → List Frame → Array Value → State → State → Prop} {cs ss pc mc : Nat} {ls : List (Option jV)} {st : List jV} {I : jI} {P : jP} {Q : Option jV → jI → jP → Prop} {X : String → jI → jP → Prop}
theorem jJ_iretx {x : Int} (hd : decode cc pc = .ok (.ireturn, 1)) (hrt : rt = some .int) (hcs : cs ≤ mc ∧ ss ≤ 6 * mc) (hq : Q (some (ji x)) I P) : jJ E own cc nL rt R (jZx E Q X mc) cs ss pc ls [ji x] I P := by
  intro p e s m args below meth c H locs la hc hH hS hl h1 h2
  refine W_if (fun _ => vx_ret (W.widen (k := mc) (n := 6 * mc) hcs.1 hcs.2 ?_))
  exact W.iret hc.1 hc.2.1 (hc.2.2.1.trans hrt) (fun t ht hW => ⟨⟨some (ji x), I, P, rfl, fun v hv => by cases hv; exact h2.1, hq, jWld_of hc.2.2.2.2.2.2.2.2.2 hH hS hc.2.2.2.2.2.2.2.1 hc.2.2.2.2.2.2.2.2.1 hW ht⟩, hS.F ht⟩) hS.2.2 hd hc.2.2.2.2.2.2.1
theorem jJ_zretx {x : Int} (hd : decode cc pc = .ok (.ireturn, 1)) (hrt : rt = some .boolean) (hx : x = 0 ∨ x = 1) (hcs : cs ≤ mc ∧ ss ≤ 6 * mc) (hq : Q (some (ji x)) I P) : jJ E own cc nL rt R (jZx E Q X mc) cs ss pc ls [ji x] I P := by
  intro p e s m args below meth c H locs la hc hH hS hl h1 h2
  refine W_if (fun _ => vx_ret (W.widen (k := mc) (n := 6 * mc) hcs.1 hcs.2 ?_))
  exact W.zret (ty := .boolean) hc.1 hc.2.1 (hc.2.2.1.trans hrt) (by rcases hx with rfl | rfl <;> decide) (fun t ht hW => ⟨⟨some (ji x), I, P, rfl, fun v hv => by cases hv; exact h2.1, hq, jWld_of hc.2.2.2.2.2.2.2.2.2 hH hS hc.2.2.2.2.2.2.2.1 hc.2.2.2.2.2.2.2.2.1 hW ht⟩, hS.F ht⟩) hS.2.2 hd hc.2.2.2.2.2.2.1
theorem jJ_aretx {x : Nat} {ty : FieldType} (hd : decode cc pc = .ok (.areturn, 1)) (hrt : rt = some ty) (hty : (∃ n, ty = .object n) ∨ ∃ t, ty = .array t) (hcs : cs ≤ mc ∧ ss ≤ 6 * mc) (hq : Q (some (jp x)) I P) : jJ E own cc nL rt R (jZx E Q X mc) cs ss pc ls [jp x] I P := by
  intro p e s m args below meth c H locs la hc hH hS hl h1 h2
  refine W_if (fun _ => vx_ret (W.widen (k := mc) (n := 6 * mc) hcs.1 hcs.2 ?_))
  exact W.aret (rt := ty) hc.1 hc.2.1 (hc.2.2.1.trans hrt) hty (Or.inr ⟨x, rfl⟩) (fun t ht hW => ⟨⟨some (jp x), I, P, rfl, fun v hv => by cases hv; trivial, hq, jWld_of hc.2.2.2.2.2.2.2.2.2 hH hS hc.2.2.2.2.2.2.2.1 hc.2.2.2.2.2.2.2.2.1 hW ht⟩, hS.F ht⟩) hS.2.2 hd hc.2.2.2.2.2.2.1
theorem jHp_grown {H H1 : Heap} (h : jHp E I P H) (hk : ∀ q : Nat, q < H.size → H1[q]? = H[q]?) : jHp E I P H1 := ⟨h.1.kept (fun k q hq => hk q.1 (vx_lt h.1 hq)), h.2⟩
/-- new X(), thrown, and nobody here catches it -/
theorem jJ_throw {ik ic d : Nat} {cls : String} (hl : (eX E).stackTraces = false) (ho : own = RX6) (hth : jTh ik ic cls) (d0 : decode cc pc = .ok (.new ik, 3)) (d3 : decode cc (pc + 3) = .ok (.dup, 1)) (d4 : decode cc (pc + 4) = .ok (.invokespecial ic, 3)) (d7 : decode cc (pc + 7) = .ok (.athrow, 1)) (hst : (st.map (fun v => (jc v).category)).sum ≤ 8) (hd : 6 ≤ d) (hcs : cs + 1 ≤ mc ∧ ss + 6 ≤ 6 * mc) (hx : X cls I P) : jJ E own cc nL rt (jRmx d mc) (jZx E Q X mc) cs ss pc ls st I P := by
  intro p e s m args below meth c H locs la hc hH hS hll h1 h2
  subst ho
  obtain ⟨t1, t2, t3, t4, t5⟩ := hth
  refine W_if (fun hnt => ?_)
  have hX := hc.2.2.2.2.2.2.2.2.1
  have hat : ∀ w ∈ vx_at0 RX6 ic cls jNms, w.before args s = true := by
    intro w hw
    have hg := List.all_eq_true.mp t5 w hw
    simp only [Bool.or_eq_true] at hg
    rcases hg with hg | hg
    · exact hc.2.2.2.2.2.1 w (jT_mem (t4 w hw) hg)
    · exact va_Nw.use (by simp only [Bool.and_eq_true] at hg; exact hg.1) (hX.2.2.2.2.2.2 w (t4 w hw) hg)
  refine vx_throw0 hc.1 hc.2.1 hl hc.2.2.2.2.1 t1 jNms_fit (hc.2.2.2.2.2.1 _ t2) (hc.2.2.2.2.2.1 _ t3) hat ?_ hX.2.2.2.1 hX.2.2.2.2.1 hS (hll.size.trans hc.2.2.2.1.symm) d0 d3 d4 d7 (fun x hx => absurd (hnt x hx) id) (by show 2 + 3 < d; omega) ?_ hcs.1 ?_ hc.2.2.2.2.2.2.1 ?_ hS.2.2 hcs.1 hcs.2
  · intro w hw
    unfold vx_ot
    rcases List.mem_cons.mp hw with rfl | hw
    · rfl
    · rcases List.mem_cons.mp hw with rfl | hw
      · rfl
      · have hg := List.all_eq_true.mp t5 w hw
        simp only [Bool.or_eq_true, Bool.and_eq_true] at hg ⊢
        rcases hg with hg | hg
        · exact Or.inr hg
        · exact Or.inl hg.1
  · rw [List.map_map]
    show _ + (13 * (2 + 1) + 42) ≤ 60 * d
    have : ((List.map ((fun v => Value.category v) ∘ jc) st).sum) ≤ 8 := hst
    omega
  · exact hcs.2
  · intro t hvm hsz hkeep
    refine ⟨⟨I, P, hx, ?_⟩, Nat.le_trans hS.1 hsz, fun q hq1 hq2 => ?_⟩
    · exact jHp_grown hH hkeep
    · rw [hkeep q (Nat.lt_of_lt_of_le hq1 hS.1)]
      exact hS.2.1 q hq1 hq2
/-- a call that comes back or throws -/
theorem jJ_goonx {p : Program} {e : Env} {s : State} {m : MethodId} {args : Array Value} {below : List Frame} {meth : Method} {c : Code} {H : Heap} {locs : List Loc} {la : Array Slot} {st0 : List Value} {ag : Array Value} {mk : Nat} {Q' : Option jV → jI → jP → Prop} {X' : String → jI → jP → Prop} {QQ : State → Prop} (hS : va_S (jA E) s.heap H locs)
    (hrun : vx_Run p (eX E) e R s m args below meth c H locs cs ss mk (6 * mk) (F0 m pc la st0) (st.map jc) (jQ E Q' ag) (jXC E X') (jA E))
    (kk : ∀ r I' P' H1 locs1, Q' r I' P' → (∀ v, r = some v → jRv v) → jHp E I' P' H1 → va_S (jA E) s.heap H1 locs1 → W p (eX E) e R s m args below meth c H1 locs1 (cs + mk) (ss + 6 * mk) QQ (F0 m (pc + 3) la ((r.toList ++ st).map jc)))
    (kx : ∀ Ec I' P' H1 locs1 q ce, X' Ec I' P' → jHp E I' P' H1 → va_S (jA E) s.heap H1 locs1 → H1[q]? = some ce → ce.vm = .none → s.vm.findClass Ec = some ce.cls → vx_W p (eX E) e R s m args below meth c H1 locs1 (cs + mk) (ss + 6 * mk) QQ (F0 m pc la (st.map jc)) q) :
    W p (eX E) e R s m args below meth c H locs cs ss QQ (F0 m pc la st0) := by
  intro T hT X
  rcases hrun T hT X with ⟨v, st₀, t, T', L, h0, X', hL, e1, e2, ⟨⟨r, I', P', hv, hrv, hq, hwld⟩, hz, hk⟩, stp⟩ | ⟨q, st₀, t, T', L, Ec, ce, h0, X', hL, e1, e2, ⟨⟨I', P', hx, hhp⟩, hz, hk⟩, hce, hcv, hcl, stp⟩
  · cases hv
    rw [h0] at hz hk
    have hS' : va_S (jA E) s.heap T'.heap (locs ++ L) := ⟨Nat.le_trans hS.1 (by rw [e1]; exact hz), fun q h1 h2 => by rw [e1, hk q (Nat.lt_of_lt_of_le h1 hS.1) h2]; exact hS.2.1 q h1 h2, fun q hq => by
        rcases List.mem_append.mp hq with h | h
        · exact hS.2.2 q h
        · exact hL q h⟩
    obtain ⟨t2, a1, b1⟩ := kk r I' P' T'.heap (locs ++ L) hq hrv (by rw [e1]; exact hwld.2.1) hS' T' rfl X'
    refine ⟨t2, stp t2 ?_, b1⟩
    have e3 : (r.map jc).toList ++ st.map jc = (r.toList ++ st).map jc := by cases r <;> simp
    rw [e3]
    exact a1
  · rw [h0] at hz hk
    have hS' : va_S (jA E) s.heap T'.heap (locs ++ L) := ⟨Nat.le_trans hS.1 (by rw [e1]; exact hz), fun q h1 h2 => by rw [e1, hk q (Nat.lt_of_lt_of_le h1 hS.1) h2]; exact hS.2.1 q h1 h2, fun q hq => by
        rcases List.mem_append.mp hq with h | h
        · exact hS.2.2 q h
        · exact hL q h⟩
    obtain ⟨t2, a1, b1⟩ := kx Ec I' P' T'.heap (locs ++ L) q ce hx (by rw [e1]; exact hhp) hS' (by rw [e1]; exact hce) hcv hcl T' rfl X'
    exact ⟨t2, stp.trans a1, b1⟩
/-- the call of an object's method that may throw, by what comes of it -/
theorem jJ_callVx0 {idx n2 d b mk : Nat} {C : String} {y : MethodName} {c2 : ByteArray} {rt2 : Option FieldType} {as : List jV} {Q' : Option jV → jI → jP → Prop} {X' : String → jI → jP → Prop} (hd : decode cc pc = .ok (.invokevirtual idx, 3)) (hM : jMv own idx C y c2 n2 rt2 as.length) (hrc : jRcv E C b) (hst : (st.map (fun v => (jc v).category)).sum ≤ 8) (hR : d + 1 ≤ R.frames ∧ 8 + (n2 + 11) + 60 * d ≤ R.locals ∧ cs + mk ≤ R.cells ∧ ss + 6 * mk ≤ R.slots)
    (hC : jCx E y c2 n2 rt2 d mk (jp b :: as) I P Q' X') {p : Program} {e : Env} {s : State} {m : MethodId} {args : Array Value} {below : List Frame} {meth : Method} {c : Code} {H : Heap} {locs : List Loc} {la : Array Slot} {QQ : State → Prop} (hc : jCtx E own cc nL rt p s m args meth c) (hH : jHp E I P H) (hS : va_S (jA E) s.heap H locs) (hl : jLoc la nL ls) (h2 : jRs (as.reverse ++ jp b :: st))
    (kk : ∀ r I' P' H1 locs1, Q' r I' P' → (∀ v, r = some v → jRv v) → jHp E I' P' H1 → va_S (jA E) s.heap H1 locs1 → W p (eX E) e R s m args below meth c H1 locs1 (cs + mk) (ss + 6 * mk) QQ (F0 m (pc + 3) la ((r.toList ++ st).map jc)))
    (kx : ∀ Ec I' P' H1 locs1 q ce, X' Ec I' P' → jHp E I' P' H1 → va_S (jA E) s.heap H1 locs1 → H1[q]? = some ce → ce.vm = .none → s.vm.findClass Ec = some ce.cls → vx_W p (eX E) e R s m args below meth c H1 locs1 (cs + mk) (ss + 6 * mk) QQ (F0 m pc la (st.map jc)) q) :
    W p (eX E) e R s m args below meth c H locs cs ss QQ (F0 m pc la ((as.reverse ++ jp b :: st).map jc)) := by
  obtain ⟨m1, m2, m3, m4, m5, m6, m7⟩ := hM
  obtain ⟨r1, r2⟩ := jRs_app.mp h2
  have hMet := hC ⟨trivial, jRs_rev.mp r1⟩
  have hgood : GoodIn jT (wsV own idx C y (jws y c2 n2 rt2)) := jT_good (fun w hw => by
    rcases List.mem_append.mp hw with h | h
    · simp only [List.mem_cons, List.not_mem_nil, or_false] at h
      rcases h with rfl | rfl | rfl | rfl
      · exact m1
      · exact m2
      · exact m3
      · exact m4
    · rcases List.mem_cons.mp h with rfl | h
      · exact m5
      · exact h)
  have hrecv : ∃ cellB : Cell, H[b]? = some cellB ∧ cellB.vm.isStatics = false ∧ s.vm.findClass C = some cellB.cls := by
    rcases hrc with ⟨hb, q, hq, rfl⟩ | ⟨rfl, i, hi, rfl⟩
    · obtain ⟨i0, hi0⟩ := jPool_get (I := I) (P := P) hb
      rw [jCell_obj rfl (jcl_nf hq).2] at hi0
      exact va_recv hc.2.2.2.2.2.2.2.1 hH.1 hq hi0
    · exact vk_recv hc.2.2.2.2.2.2.2.2.1.2.1.1 hi hS
  refine jJ_goonx hS (vx_runV (As := as.map jc) (b := b) ⟨hc.1, hc.2.1, hc.2.2.2.1, hc.2.2.2.2.1, hc.2.2.2.2.2.1⟩ hMet (cwV as.length hc.2.2.2.2.2.1 hgood rfl rfl rfl ⟨m6, m7⟩ ⟨hR.1, hR.2.1⟩) ⟨jWld_blind, hrecv, fun U hU hW => ⟨rfl, jWld_of hc.2.2.2.2.2.2.2.2.2 hH hS hc.2.2.2.2.2.2.2.1 hc.2.2.2.2.2.2.2.2.1 hW hU⟩⟩ rfl (by simp) hl.size ?_ ?_ hd ⟨hR.2.2.1, hR.2.2.2⟩) kk kx
  · simp [jc, va_rf, List.map_reverse]
  · refine lv_room ?_
    rw [List.map_map]
    exact hst
theorem jJ_callVx {idx n2 d b mk : Nat} {C : String} {y : MethodName} {c2 : ByteArray} {rt2 : Option FieldType} {as : List jV} {Q' : Option jV → jI → jP → Prop} {X' : String → jI → jP → Prop} (hd : decode cc pc = .ok (.invokevirtual idx, 3)) (hM : jMv own idx C y c2 n2 rt2 as.length) (hrc : jRcv E C b) (hst : (st.map (fun v => (jc v).category)).sum ≤ 8) (hR : d + 1 ≤ R.frames ∧ 8 + (n2 + 11) + 60 * d ≤ R.locals ∧ cs + mk ≤ R.cells ∧ ss + 6 * mk ≤ R.slots)
    (hC : jCx E y c2 n2 rt2 d mk (jp b :: as) I P Q' X') (hmc : cs + mk ≤ mc ∧ ss + 6 * mk ≤ 6 * mc) (kx : ∀ Ec I' P', X' Ec I' P' → X Ec I' P')
    (kk : ∀ r I' P', Q' r I' P' → jJ E own cc nL rt R (jZx E Q X mc) (cs + mk) (ss + 6 * mk) (pc + 3) ls (r.toList ++ st) I' P') : jJ E own cc nL rt R (jZx E Q X mc) cs ss pc ls (as.reverse ++ jp b :: st) I P := by
  intro p e s m args below meth c H locs la hc hH hS hl h1 h2
  refine W_if (fun hnt => ?_)
  refine jJ_callVx0 hd hM hrc hst hR hC hc hH hS hl h2 ?_ ?_
  · intro r I' P' H1 locs1 hq hrv hH' hS' T hT X9
    obtain ⟨t, a1, b1⟩ := kk r I' P' hq p e s m args below meth c H1 locs1 la hc hH' hS' hl h1 (jRs_app.mpr ⟨by
      cases r with
      | none => trivial
      | some v => exact ⟨hrv v rfl, trivial⟩, (jRs_app.mp h2).2.2⟩) T hT X9
    exact ⟨t, a1, b1 hnt⟩
  · intro Ec I' P' H1 locs1 q ce hx hH' hS' hce hcv hcl
    exact vx_out (fun x hx => absurd (hnt x hx) id) hc.2.2.2.2.2.2.1 hce hcv hcl (fun t ht _ => ⟨⟨I', P', kx _ _ _ hx, by rw [ht]; exact hH'⟩, by rw [ht]; exact hS'.1, fun q hq1 hq2 => by rw [ht]; exact hS'.2.1 q hq1 hq2⟩) hS'.2.2 hmc.1 hmc.2
end JThr
