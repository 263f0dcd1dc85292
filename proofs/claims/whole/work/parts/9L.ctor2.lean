section JCtor2
variable {E E0 : jE} {own : String} {cc : ByteArray} {nL : Nat} {rt : Option FieldType} {R : Room} {Z : Code → List Frame → Array Value → State → State → Prop} {cs ss pc : Nat} {ls : List (Option jV)} {st : List jV} {I : jI} {P : jP} {Q : jE → jI → jP → Prop} {A : State → Prop}
theorem jJ_vretN (hE : eSame E0 E) (hd : decode cc pc = .ok (.return_, 1)) (hrt : rt = none) (hq : Q E I P) : jJ E own cc nL rt R (jZn E0 Q A cs ss) cs ss pc ls [] I P := by
  intro p e s m args below meth c H locs la hc hH hS hl h1 h2
  refine W_if (fun _ => ?_)
  obtain ⟨L, K, N, rfl⟩ := hE
  exact W.vret hc.1 hc.2.1 (hc.2.2.1.trans hrt) (fun t ht hW => ⟨⟨_, I, P, rfl, ⟨L, K, N, rfl⟩, hq, jWld_of hc.2.2.2.2.2.2.2.2.2 hH hS hc.2.2.2.2.2.2.2.1 hc.2.2.2.2.2.2.2.2.1 hW ht⟩, hS.F ht⟩) hS.2.2 hd hc.2.2.2.2.2.2.1
/-- a final field of the own class -/
def jFf (own : String) (idx ci k : Nat) : Prop := ∃ q : vw_C, vwCl[ci]? = some q ∧ k < q.2.2 ∧ (q.2.1 k).1 = q.1 ∧ q.1 = own ∧ Cond.fieldLink own idx q.1 (q.2.1 k).2.1 (q.2.1 k).2.2.1 ∈ jT ∧ (q.2.1 k).2.2.2 = true
theorem jJ_putrF {idx ci k a b mc ms : Nat} (hd : decode cc pc = .ok (.putfield idx, 3)) (hF : jFf own idx ci k) (hr : jIsR (jTy ci k) = true) (hv : narrow (jTy ci k) (.ref b) = .ref b ∧ fits (jTy ci k) (.ref b) = true) (ha : jK E ci a) (kk : jJ E own cc nL rt R (jZn E0 Q A mc ms) cs ss (pc + 3) ls st I (jputP P a k (some b))) : jJ E own cc nL rt R (jZn E0 Q A mc ms) cs ss pc ls (jp b :: jp a :: st) I P := by
  intro p e s m args below meth c H locs la hc hH hS hl h1 h2
  refine W_if (fun hN => ?_)
  intro T hT X
  have hname := hN.1 m args below meth X.frames X.method
  revert T
  obtain ⟨q, hq, hk, hq1, hqo, hlk, hfin⟩ := hF
  obtain ⟨hn, h8⟩ := jcl_nf hq
  obtain ⟨i0, hi0⟩ := jPool_get (I := I) (P := P) ha.1
  have hset := jPool_set (I' := I) (P' := jputP P a k (some b)) (v := .inr (ci, (jFs ci a I P).set k (.ref b))) hH.2.1 ha.1 hi0 (by rw [jCell_obj ha.2 h8, ← jFs_putP hr]; rfl) (fun b j hb => rfl) (fun b j hb => by simp [jputP, hb])
  rw [jCell_obj ha.2 h8] at hi0
  have hlen : k < (jFs ci a I P).length := by rw [jFs_len, ← hn]; exact hk
  intro T hT X
  refine (va_putF (D := eD E) (C := q.1) (T := q.2.1) (N := q.2.2) hc.1 hc.2.1 hc.2.2.2.2.2.1 (jcl_in hq) (jTy ci) (jcl_ty hq) (jcl_nm hq) hc.2.2.2.2.1 hc.2.2.2.2.2.2.2.1 hH.1 hH.2.1 hS i0 hi0 hq k hk (hc.2.2.2.2.2.1 _ hlk) (fun x hx => by rw [hq1] at hx; exact hx) hfin hname (hq1.trans hqo) (jcl_ty hq k hk) hv.1 hv.2 hlen hd (fun H1 locs1 hP1 hD1 hS1 => ?_)) T hT X
  exact W_go hN (kk p e s m args below meth c H1 locs1 la hc ⟨by rw [← hset]; exact hP1, by rw [← hset]; exact hD1, hH.2.2⟩ hS1 hl h1 h2.2.2)
theorem jJ_objInit {idx a : Nat} (hd : decode cc pc = .ok (.invokespecial idx, 3)) (hlink : Cond.methodLink own idx Lib.objectInit ∈ jT) (hinst : Cond.instanceMethod Lib.objectInit ∈ jT) (hcode : Cond.code Lib.objectInit ⟨#[0xb1]⟩ 1 none ∈ jT) (hst : (st.map (fun v => (jc v).category)).sum ≤ 8) (hR : 1 ≤ R.frames ∧ 20 ≤ R.locals) (kk : jJ E own cc nL rt R Z cs ss (pc + 3) ls st I P) : jJ E own cc nL rt R Z cs ss pc ls (jp a :: st) I P := by
  intro p e s m args below meth c H locs la hc hH hS hl h1 h2
  refine W.objInit (rest := st.map jc) hc.1 hc.2.1 hc.2.2.2.2.1 (hc.2.2.2.2.2.1 _ hlink) (hc.2.2.2.2.2.1 _ hinst) (hc.2.2.2.2.2.1 _ hcode) rfl (hl.size.trans hc.2.2.2.1.symm) rfl hd hR.1 ?_ (kk p e s m args below meth c H locs la hc hH hS hl h1 h2.2)
  refine Nat.le_trans (Nat.add_le_add_right (m := 8) (lv_room ?_) 12) hR.2
  rw [List.map_map]
  exact hst
theorem jJ_goonN {mc ms : Nat} {p : Program} {e : Env} {s : State} {m : MethodId} {args : Array Value} {below : List Frame} {meth : Method} {c : Code} {H : Heap} {locs : List Loc} {la : Array Slot} {st0 : List Value} {ag : Array Value} (hc : jCtx E own cc nL rt p s m args meth c) (hS : va_S (jA E) s.heap H locs) (hl : jLoc la nL ls) (h1 : jRl ls) (h2 : jRs st)
    (hrun : va_Run p (eX E) e R s m args below meth c H locs cs ss mc ms (F0 m pc la st0) (st.map jc) (jQn E Q ag) (jA E)) (kk : ∀ E' I' P', eSame E E' → Q E' I' P' → jJ E' own cc nL rt R Z (cs + mc) (ss + ms) (pc + 3) ls st I' P') : W p (eX E) e R s m args below meth c H locs cs ss (Z c below args s) (F0 m pc la st0) := by
  intro T hT X
  obtain ⟨v, st₀, t, T', L, h0, X', hL, e1, e2, ⟨⟨E', I', P', hv, hE, hq, hwld⟩, hz, hk⟩, stp⟩ := hrun T hT X
  cases hv
  rw [h0] at hz hk
  have hS' : va_S (jA E) s.heap T'.heap (locs ++ L) := ⟨Nat.le_trans hS.1 (by rw [e1]; exact hz), fun q h1 h2 => by rw [e1, hk q (Nat.lt_of_lt_of_le h1 hS.1) h2]; exact hS.2.1 q h1 h2, fun q hq => by
      rcases List.mem_append.mp hq with h | h
      · exact hS.2.2 q h
      · exact hL q h⟩
  have hk2 := kk E' I' P' hE hq
  obtain ⟨L2, K2, N2, rfl⟩ := hE
  obtain ⟨t2, a1, b1⟩ := hk2 p e s m args below meth c T'.heap (locs ++ L) la hc (by rw [e1]; exact hwld.2.1) hS' hl h1 h2 T' rfl X'
  exact ⟨t2, stp t2 a1, b1⟩
theorem jJ_callN {idx n2 d b mc ms : Nat} {y : MethodName} {c2 : ByteArray} {as : List jV} (hd : decode cc pc = .ok (.invokespecial idx, 3)) (m1 : Cond.methodLink own idx y ∈ jT ∨ ∃ host, Cond.methodLinkNest own idx y host ∈ lw_tbl) (m2 : Cond.instanceMethod y ∈ jT) (m3 : Cond.initialized y.cls ∈ jT) (m4 : Cond.code y c2 n2 none ∈ jT) (m5 : jPn y as.length) (m6 : y.name = "<init>") (hst : (st.map (fun v => (jc v).category)).sum ≤ 8) (hR : d + 1 ≤ R.frames ∧ 8 + (n2 + 11) + 60 * d ≤ R.locals ∧ cs + mc ≤ R.cells ∧ ss + ms ≤ R.slots)
    (hC : jN E (fun _ => True) y c2 n2 d mc ms (jp b :: as) I P Q) (kk : ∀ E' I' P', eSame E E' → Q E' I' P' → jJ E' own cc nL rt R Z (cs + mc) (ss + ms) (pc + 3) ls st I' P') : jJ E own cc nL rt R Z cs ss pc ls (as.reverse ++ jp b :: st) I P := by
  intro p e s m args below meth c H locs la hc hH hS hl h1 h2
  obtain ⟨r1, r2⟩ := jRs_app.mp h2
  have hMet := hC ⟨trivial, jRs_rev.mp r1⟩
  have hws : ∀ w ∈ jws y c2 n2 none, w ∈ jT := fun w hw => by
    rcases List.mem_cons.mp hw with rfl | h
    · exact m4
    · exact h
  have hpre : PreS s H (va_Pc ((jp b :: as).map jc) (fun U => jWld E I P U ∧ True)) (.ref b :: as.map jc) := ⟨fun a U g mk z => ⟨z.1, (jWld_blind (av := (jp b :: as).map jc) a U g mk ⟨z.1, z.2.1⟩).2, trivial⟩, fun U hU hW => ⟨rfl, jWld_of hc.2.2.2.2.2.2.2.2.2 hH hS hc.2.2.2.2.2.2.2.1 hc.2.2.2.2.2.2.2.2.1 hW hU, trivial⟩⟩
  have hstk : (F0 m pc la ((as.reverse ++ jp b :: st).map jc)).stack = (as.map jc).reverse ++ .ref b :: st.map jc := by simp [List.map_reverse, jc, va_rf]
  have hroom : 2 * (F0 m pc la ((as.reverse ++ jp b :: st).map jc)).monitorRoom + ((st.map jc).map fun v => v.category).sum ≤ 8 := by
    refine lv_room ?_
    rw [List.map_map]
    exact hst
  rcases m1 with m1 | ⟨host, m1⟩
  · exact jJ_goonN hc hS hl h1 r2.2 (va_runI (As := as.map jc) (b := b) ⟨hc.1, hc.2.1, hc.2.2.2.1, hc.2.2.2.2.1, hc.2.2.2.2.2.1⟩ hMet (cwI as.length hc.2.2.2.2.2.1 (jT_good hws) rfl rfl rfl (hc.2.2.2.2.2.1 _ m3) (hc.2.2.2.2.2.1 _ m1) (hc.2.2.2.2.2.1 _ m2) m6 m5 ⟨hR.1, hR.2.1⟩) hpre rfl (by simp) hl.size hstk hroom hd ⟨hR.2.2.1, hR.2.2.2⟩) kk
  · exact jJ_goonN hc hS hl h1 r2.2 (va_runIN (host := host) (As := as.map jc) (b := b) ⟨hc.1, hc.2.1, hc.2.2.2.1, hc.2.2.2.2.1, hc.2.2.2.2.2.1⟩ hMet ⟨va_cnB as.length hc.2.2.2.2.2.1 (jT_good hws) rfl rfl rfl (hc.2.2.2.2.2.2.2.2.1.1 _ m1 rfl) (hc.2.2.2.2.2.1 _ m3) m5 ⟨hR.1, hR.2.1⟩, m6, hc.2.2.2.2.2.1 _ m2⟩ hpre rfl (by simp) hl.size hstk hroom hd ⟨hR.2.2.1, hR.2.2.2⟩) kk
end JCtor2
